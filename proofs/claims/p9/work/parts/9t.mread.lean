/-! Safety of the reference, its TOKENS: by program (spec.py). -/
/-- n digits behind k give v -/
def PtN (B : Nat → Int32) (len k : Int32) (n v : Int) : Prop := (n = 0 → v = 0) ∧ (n = 1 → 48 ≤ (sgF B len k).toInt ∧ (sgF B len k).toInt ≤ 57 ∧ v = (sgF B len k).toInt - 48) ∧ (n = 2 → 48 ≤ (sgF B len k).toInt ∧ (sgF B len k).toInt ≤ 57 ∧ 48 ≤ (sgF B len (k + 1)).toInt ∧ (sgF B len (k + 1)).toInt ≤ 57 ∧ v = 10 * ((sgF B len k).toInt - 48) + (sgF B len (k + 1)).toInt - 48)
/-- a POINT's number of r digits -/
def PtR (B : Nat → Int32) (len k : Int32) (r : Int) : Prop := (r = 1 → 48 ≤ (sgF B len k).toInt ∧ (sgF B len k).toInt ≤ 57) ∧ (r = 2 → 48 ≤ (sgF B len k).toInt ∧ (sgF B len k).toInt ≤ 57 ∧ 48 ≤ (sgF B len (k + 1)).toInt ∧ (sgF B len (k + 1)).toInt ≤ 57 ∧ 10 * ((sgF B len k).toInt - 48) + (sgF B len (k + 1)).toInt - 48 ≤ 15)
theorem PtN.zero {B : Nat → Int32} {len k : Int32} : PtN B len k (0 : Int32).toInt (0 : Int32).toInt := ⟨fun _ => rfl, fun h => absurd h (by decide), fun h => absurd h (by decide)⟩
theorem PtN.step {B : Nat → Int32} {len k y v c : Int32} {y' : Int} (h : PtN B len k y.toInt v.toInt) (hy : y' = y.toInt + 1) (h0 : 0 ≤ y.toInt) (hc : c = sgF B len (k + y)) (d1 : 48 ≤ c.toInt) (d2 : c.toInt ≤ 57) : PtN B len k y' (10 * v + c - 48).toInt := by
  obtain ⟨p0, p1, p2⟩ := h
  have e48 : (48 : Int32).toInt = 48 := rfl
  have st : 0 ≤ v.toInt → v.toInt ≤ 9 → (10 * v + c - 48).toInt = 10 * v.toInt + c.toInt - 48 := fun a1 a2 => by
    have s2 : (10 * v).toInt = 10 * v.toInt := tMulL rfl (by omega) (by omega)
    have s3 : (10 * v + c).toInt = (10 * v).toInt + c.toInt := tAdd (by omega) (by omega)
    have s4 : (10 * v + c - 48).toInt = (10 * v + c).toInt - (48 : Int32).toInt := tSub (by omega) (by omega)
    omega
  refine ⟨fun h => absurd h (by omega), fun h => ?_, fun h => ?_⟩
  · have ey : y = 0 := Int32.toInt_inj.mp (show y.toInt = (0 : Int32).toInt by have : (0 : Int32).toInt = 0 := rfl; omega)
    have v0 := p0 (by omega)
    have q := st (by omega) (by omega)
    rw [ey, Int32.add_zero] at hc
    rw [← hc]
    omega
  · have ey : y = 1 := Int32.toInt_inj.mp (show y.toInt = (1 : Int32).toInt by have : (1 : Int32).toInt = 1 := rfl; omega)
    have v1 := p1 (by omega)
    have q := st (by omega) (by omega)
    rw [ey] at hc
    rw [← hc]
    omega
theorem PtN.out {B : Nat → Int32} {len k : Int32} {n v : Int} (h : PtN B len k n v) (hv : v ≤ 15) : PtR B len k n := by
  obtain ⟨_, p1, p2⟩ := h
  exact ⟨fun e => ⟨(p1 e).1, (p1 e).2.1⟩, fun e => by have q := p2 e; omega⟩
theorem PtR.no {B : Nat → Int32} {len k : Int32} : PtR B len k (0 : Int32).toInt := ⟨fun h => absurd h (by decide), fun h => absurd h (by decide)⟩
set_option maxHeartbeats 4000000 in
set_option maxRecDepth 20000 in
theorem yModel_pointAt_4 {D : va_G} {cA : FieldType → ClassId} {b : Nat} {E : State → Prop} {R : qRg} {o n : Nat} {sh : Nat → qC} {Rf : Nat → Nat → Option Nat} {I0 : Nat → Nat → Int32} {L0 : Nat → Nat → Int64} {post : Option Value → qS → Prop} {p1 : Int32} (hok : q_ok (qGG D cA b E)) (hw : WfModel (qGG D cA b E) n sh Rf o) (ra : RAModel R o) (hq0 : (0 : Int) ≤ p1.toInt ∧ p1.toInt ≤ 1700) (hR : RI R I0) (hp : ∀ (r : Int32) , (((0 : Int) ≤ r.toInt ∧ r.toInt ≤ 2)) → (PtR (I0 (o + 2)) (I0 o 3) p1 r.toInt) → post (some (.int r)) (n, sh, Rf, I0, L0)) : ∀ (k : Nat) {x1 : Int32} {x2 : Int32} {x3 : Int32} , ((0 : Int) ≤ x2.toInt ∧ x2.toInt ≤ 3) → ((0 : Int) ≤ x1.toInt ∧ x1.toInt ≤ 1700) → (x1 = p1) → (PtN (I0 (o + 2)) (I0 o 3) x1 x2.toInt x3.toInt) → (3 - x2.toInt).toNat < k → Ev (qGG D cA b E) mModel_pointAt 1 (0, 0) 4 [(0, .ref o), (1, .int x1), (2, .int x2), (3, .int x3)] [] (n, sh, Rf, I0, L0) post := by
  intro k
  induction k with
  | zero =>
    intro x1 x2 x3 hi0 hi1 hi2 hi3 hm
    exact absurd hm (Nat.not_lt_zero _)
  | succ k ih =>
    intro x1 x2 x3 hi0 hi1 hi2 hi3 hm
    refine sModel_pointAt_4 o n sh Rf I0 L0 post x1 x2 x3 hok hw ?_
    unfold fModel_pointAt_4
    have l_1 : (3 : Int32).toInt = 3 := rfl
    refine ⟨fun c_2 => ?_, fun c_2 => ?_⟩
    · have d_3 := iLe c_2
      unfold fModel_pointAt_44
      have l_4 : (1 : Int32).toInt = 1 := rfl
      refine ⟨fun c_5 => ?_, fun c_5 => ?_⟩
      · have d_6 := iLt c_5
        exfalso; omega
      · have d_7 := iNlt c_5
        have l_8 : (2 : Int32).toInt = 2 := rfl
        refine ⟨fun c_9 => ?_, fun c_9 => ?_⟩
        · have d_10 := iLt c_9
          unfold fModel_pointAt_73
          have l_11 : (0 : Int32).toInt = 0 := rfl
          exact (hp _ (by first | omega | (intro h; omega) | exact Or.inl rfl | exact Or.inr rfl) (by first | exact PtR.no | (subst_vars; exact PtN.out (by assumption) (by omega))))
        · have d_12 := iNlt c_9
          exfalso; omega
    · have d_13 := iNle c_2
      have a_14 : (x1 + x2).toInt = x1.toInt + x2.toInt := tAdd (by omega) (by omega)
      refine y_Model_sign hok hw ra (by first | omega | (intro h; omega) | exact Or.inl rfl | exact Or.inr rfl) hR (fun r_15 u_16 u_17 => ⟨r_15, I0, L0, rfl, rfl, ?_⟩)
      refine y_Model_isDigit hok hR (fun r_18 u_19 u_20 u_21 => ⟨r_18, I0, L0, rfl, rfl, ?_⟩)
      have b_22 : 0 ≤ r_18.toInt ∧ r_18.toInt ≤ 1 := u_19.rg
      have l_23 : (0 : Int32).toInt = 0 := rfl
      refine ⟨fun c_24 => ?_, fun c_24 => ?_⟩
      · have d_25 := iEq c_24
        unfold fModel_pointAt_44
        have l_26 : (1 : Int32).toInt = 1 := rfl
        refine ⟨fun c_27 => ?_, fun c_27 => ?_⟩
        · have d_28 := iLt c_27
          unfold fModel_pointAt_73
          exact (hp _ (by first | omega | (intro h; omega) | exact Or.inl rfl | exact Or.inr rfl) (by first | exact PtR.no | (subst_vars; exact PtN.out (by assumption) (by omega))))
        · have d_29 := iNlt c_27
          have l_30 : (2 : Int32).toInt = 2 := rfl
          refine ⟨fun c_31 => ?_, fun c_31 => ?_⟩
          · have d_32 := iLt c_31
            exfalso; omega
          · have d_33 := iNlt c_31
            have l_34 : (16 : Int32).toInt = 16 := rfl
            refine ⟨fun c_35 => ?_, fun c_35 => ?_⟩
            · have d_36 := iLe c_35
              unfold fModel_pointAt_73
              exact (hp _ (by first | omega | (intro h; omega) | exact Or.inl rfl | exact Or.inr rfl) (by first | exact PtR.no | (subst_vars; exact PtN.out (by assumption) (by omega))))
            · have d_37 := iNle c_35
              have a_38 : (x1 + x2).toInt = x1.toInt + x2.toInt := tAdd (by omega) (by omega)
              refine y_Model_sign hok hw ra (by first | omega | (intro h; omega) | exact Or.inl rfl | exact Or.inr rfl) hR (fun r_39 u_40 u_41 => ⟨r_39, I0, L0, rfl, rfl, ?_⟩)
              refine y_Model_isLetter hok hR (fun r_42 u_43 u_44 => ⟨r_42, I0, L0, rfl, rfl, ?_⟩)
              have b_45 : 0 ≤ r_42.toInt ∧ r_42.toInt ≤ 1 := u_43.rg
              refine ⟨fun c_46 => ?_, fun c_46 => ?_⟩
              · have d_47 := iEq c_46
                exact (hp _ (by first | omega | (intro h; omega) | exact Or.inl rfl | exact Or.inr rfl) (by first | exact PtR.no | (subst_vars; exact PtN.out (by assumption) (by omega))))
              · have d_48 := iNe c_46
                unfold fModel_pointAt_73
                exact (hp _ (by first | omega | (intro h; omega) | exact Or.inl rfl | exact Or.inr rfl) (by first | exact PtR.no | (subst_vars; exact PtN.out (by assumption) (by omega))))
      · have d_49 := iNe c_24
        have dg := u_20 (by omega)
        have a_50 : (x1 + x2).toInt = x1.toInt + x2.toInt := tAdd (by omega) (by omega)
        refine y_Model_sign hok hw ra (by first | omega | (intro h; omega) | exact Or.inl rfl | exact Or.inr rfl) hR (fun r_51 u_52 u_53 => ⟨r_51, I0, L0, rfl, rfl, ?_⟩)
        have sq := u_53
        have be := iEq ((u_53).trans (u_17).symm)
        have a_55 : (x2 + Int32.ofInt 1).toInt = x2.toInt + (1) := tIc (by omega) (by omega) (by decide) (by decide)
        generalize ez_54 : (x2 + Int32.ofInt 1) = z_54 at a_55 ⊢
        exact ih (by first | omega | (intro h; omega) | exact Or.inl rfl | exact Or.inr rfl) (by first | omega | (intro h; omega) | exact Or.inl rfl | exact Or.inr rfl) (by first | rfl | assumption) (by first | exact PtN.zero | exact PtN.step hi3 (by omega) (by omega) sq (by omega) (by omega)) (by omega)
set_option maxHeartbeats 4000000 in
set_option maxRecDepth 20000 in
theorem y_Model_pointAt {D : va_G} {cA : FieldType → ClassId} {b : Nat} {E : State → Prop} {R : qRg} {o n : Nat} {sh : Nat → qC} {Rf : Nat → Nat → Option Nat} {I0 : Nat → Nat → Int32} {L0 : Nat → Nat → Int64} {post : Option Value → qS → Prop} {p1 : Int32} (hok : q_ok (qGG D cA b E)) (hw : WfModel (qGG D cA b E) n sh Rf o) (ra : RAModel R o) (hq0 : (0 : Int) ≤ p1.toInt ∧ p1.toInt ≤ 1700) (hR : RI R I0) (hp : ∀ (r : Int32) , (((0 : Int) ≤ r.toInt ∧ r.toInt ≤ 2)) → (PtR (I0 (o + 2)) (I0 o 3) p1 r.toInt) → post (some (.int r)) (n, sh, Rf, I0, L0)) : Ev (qGG D cA b E) mModel_pointAt 1 (0, 0) 0 (lv_args 0 [.ref o, .int p1]) [] (n, sh, Rf, I0, L0) post := by
  refine sModel_pointAt_0 o n sh Rf I0 L0 post p1 hok hw ?_
  unfold fModel_pointAt_0
  have l_56 : (0 : Int32).toInt = 0 := rfl
  exact yModel_pointAt_4 (I0 := I0) (L0 := L0) (p1 := p1) hok hw ra hq0 hR hp  _ (by first | omega | (intro h; omega) | exact Or.inl rfl | exact Or.inr rfl) (by first | omega | (intro h; omega) | exact Or.inl rfl | exact Or.inr rfl) (by first | rfl | assumption) (by first | exact PtN.zero | exact PtN.step hi3 (by omega) (by omega) sq (by omega) (by omega)) (Nat.lt_succ_self _)
theorem sg_lt {B : Nat → Int32} {len k : Int32} (h : 48 ≤ (sgF B len k).toInt) : k.toInt < len.toInt := by
  unfold sgF at h
  split at h
  · exact absurd h (by decide)
  · next h1 => exact iNle h1
theorem sgLo {B : Nat → Int32} {len k a c : Int32} (hc : c = sgF B len a) (hk : k.toInt = a.toInt) (h : 48 ≤ c.toInt) : 48 ≤ (sgF B len k).toInt := by rw [Int32.toInt_inj.mp hk, ← hc]; exact h
theorem sgHi {B : Nat → Int32} {len k a c : Int32} (hc : c = sgF B len a) (hk : k.toInt = a.toInt) (h : c.toInt ≤ 57) : (sgF B len k).toInt ≤ 57 := by rw [Int32.toInt_inj.mp hk, ← hc]; exact h
theorem PtR.dig {B : Nat → Int32} {len k : Int32} {r : Int} (h : PtR B len k r) (h1 : 0 < r) (h2 : r ≤ 2) : 48 ≤ (sgF B len k).toInt ∧ (sgF B len k).toInt ≤ 57 := by
  by_cases e : r = 1
  · exact h.1 e
  · have q := h.2 (by omega)
    exact ⟨q.1, q.2.1⟩
theorem PtR.two {B : Nat → Int32} {len k : Int32} {r : Int} (h : PtR B len k r) (e : r = 2) : 48 ≤ (sgF B len k).toInt ∧ (sgF B len k).toInt ≤ 57 ∧ 48 ≤ (sgF B len (k + 1)).toInt ∧ (sgF B len (k + 1)).toInt ≤ 57 ∧ 10 * ((sgF B len k).toInt - 48) + (sgF B len (k + 1)).toInt - 48 ≤ 15 := h.2 e
theorem mul10 {v c : Int32} (a1 : 0 ≤ v.toInt) (a2 : v.toInt ≤ 9) (d1 : 48 ≤ c.toInt) (d2 : c.toInt ≤ 57) : (10 * v + c - 48).toInt = 10 * v.toInt + c.toInt - 48 := by
  have e48 : (48 : Int32).toInt = 48 := rfl
  have s2 : (10 * v).toInt = 10 * v.toInt := tMulL rfl (by omega) (by omega)
  have s3 : (10 * v + c).toInt = (10 * v).toInt + c.toInt := tAdd (by omega) (by omega)
  have s4 : (10 * v + c - 48).toInt = (10 * v + c).toInt - (48 : Int32).toInt := tSub (by omega) (by omega)
  omega
set_option maxHeartbeats 4000000 in
set_option maxRecDepth 20000 in
theorem yModel_next_363 {D : va_G} {cA : FieldType → ClassId} {b : Nat} {E : State → Prop} {R : qRg} {o n : Nat} {sh : Nat → qC} {Rf : Nat → Nat → Option Nat} {I0 : Nat → Nat → Int32} {L0 : Nat → Nat → Int64} {post : Option Value → qS → Prop} (hok : q_ok (qGG D cA b E)) (hw : WfModel (qGG D cA b E) n sh Rf o) (ra : RAModel R o) (hq0 : (I0 o 7).toInt ≤ (I0 o 3).toInt) (hp : ∀ (I' : Nat → Nat → Int32) (L' : Nat → Nat → Int64), RI R I' → Fm (fun c => c = o) I0 I' → ((I' o 7).toInt ≤ (I' o 3).toInt) → ((I0 o 7).toInt ≤ (I' o 7).toInt) → (Im ((I' o 8).toInt ≠ 0) ((I0 o 7).toInt < (I' o 7).toInt)) → (Im ((I' o 8).toInt = 5) (0 ≤ (I' o 9).toInt ∧ (I' o 9).toInt ≤ 15)) → ((I' o 3).toInt = (I0 o 3).toInt) → ((I' o 4).toInt = (I0 o 4).toInt) → ((I' o 35).toInt = (I0 o 35).toInt) → ((I' o 44).toInt = (I0 o 44).toInt) → ((I' o 45).toInt = (I0 o 45).toInt) → ((I' o 46).toInt = (I0 o 46).toInt) → ((I' o 47).toInt = (I0 o 47).toInt) → ((I' o 48).toInt = (I0 o 48).toInt) → ((I' o 49).toInt = (I0 o 49).toInt) → ((I' o 67).toInt = (I0 o 67).toInt) → post none (n, sh, Rf, I', L')) : ∀ (k : Nat) {x1 : Int32} {I : Nat → Nat → Int32} {L : Nat → Nat → Int64}, RI R I → Fm (fun c => c = o) I0 I → ((I0 o 7).toInt ≤ (I o 6).toInt) → ((I o 6).toInt ≤ (I o 7).toInt) → (48 ≤ (sgF (I0 (o + 2)) (I0 o 3) (I o 6)).toInt) → ((sgF (I0 (o + 2)) (I0 o 3) (I o 6)).toInt ≤ 57) → ((I o 7).toInt ≤ (I o 3).toInt) → ((I o 3).toInt = (I0 o 3).toInt) → ((I o 4).toInt = (I0 o 4).toInt) → ((I o 35).toInt = (I0 o 35).toInt) → ((I o 44).toInt = (I0 o 44).toInt) → ((I o 45).toInt = (I0 o 45).toInt) → ((I o 46).toInt = (I0 o 46).toInt) → ((I o 47).toInt = (I0 o 47).toInt) → ((I o 48).toInt = (I0 o 48).toInt) → ((I o 49).toInt = (I0 o 49).toInt) → ((I o 67).toInt = (I0 o 67).toInt) → (1600 - (I o 7).toInt).toNat < k → Ev (qGG D cA b E) mModel_next 2 (0, 0) 363 [(0, .ref o), (1, .int x1)] [] (n, sh, Rf, I, L) post := by
  intro k
  induction k with
  | zero =>
    intro x1 I L hR hf hi0 hi1 hi2 hi3 hi4 hi5 hi6 hi7 hi8 hi9 hi10 hi11 hi12 hi13 hi14 hm
    exact absurd hm (Nat.not_lt_zero _)
  | succ k ih =>
    intro x1 I L hR hf hi0 hi1 hi2 hi3 hi4 hi5 hi6 hi7 hi8 hi9 hi10 hi11 hi12 hi13 hi14 hm
    have g_1 : (0 : Int) ≤ (I o 6).toInt ∧ (I o 6).toInt ≤ 1600 := hR.at0 ra 6 (by decide)
    have g_2 : (0 : Int) ≤ (I o 7).toInt ∧ (I o 7).toInt ≤ 1601 := hR.at0 ra 7 (by decide)
    have g_3 : (0 : Int) ≤ (I o 3).toInt ∧ (I o 3).toInt ≤ 1600 := hR.at0 ra 3 (by decide)
    have g_4 : (0 : Int) ≤ (I o 35).toInt ∧ (I o 35).toInt ≤ 1 := hR.at0 ra 35 (by decide)
    have g_5 : (0 : Int) ≤ (I o 67).toInt ∧ (I o 67).toInt ≤ 40 := hR.at0 ra 67 (by decide)
    refine sModel_next_363 o n sh Rf I L post x1 hok hw ?_
    unfold fModel_next_363
    have g_6 : (0 : Int) ≤ (I o 7).toInt ∧ (I o 7).toInt ≤ 1601 := hR.at0 ra 7 (by decide)
    refine y_Model_sign hok hw ra (by first | omega | (intro h; omega) | exact Or.inl rfl | exact Or.inr rfl) hR (fun r_7 u_8 u_9 => ⟨r_7, I, L, rfl, rfl, ?_⟩)
    refine y_Model_isDigit hok hR (fun r_10 u_11 u_12 u_13 => ⟨r_10, I, L, rfl, rfl, ?_⟩)
    have b_14 : 0 ≤ r_10.toInt ∧ r_10.toInt ≤ 1 := u_11.rg
    have l_15 : (0 : Int32).toInt = 0 := rfl
    refine ⟨fun c_16 => ?_, fun c_16 => ?_⟩
    · have d_17 := iEq c_16
      have se := u_9
      rw [hf (o + 2) (by first | omega | (dsimp only; omega)), show I o 3 = I0 o 3 from Int32.toInt_inj.mp (by omega)] at se
      have ex : (I o 6).toInt ≠ (I o 7).toInt := fun h => by rw [← Int32.toInt_inj.mp h] at se; have a := u_13 (by omega); have b := iEq se; omega
      have g_18 : (0 : Int) ≤ (I o 7).toInt ∧ (I o 7).toInt ≤ 1601 := hR.at0 ra 7 (by decide)
      have g_19 : (0 : Int) ≤ (I o 6).toInt ∧ (I o 6).toInt ≤ 1600 := hR.at0 ra 6 (by decide)
      have a_20 : ((I o 7) - (I o 6)).toInt = (I o 7).toInt - (I o 6).toInt := tSub (by omega) (by omega)
      have l_21 : (4 : Int32).toInt = 4 := rfl
      refine ⟨fun c_22 => ?_, fun c_22 => ?_⟩
      · have d_23 := iLt c_22
        unfold fModel_next_454
        unfold fModel_next_459
        have l_24 : (1 : Int32).toInt = 1 := rfl
        refine fun I_25 e_26 => ?_
        have hR_27 : RI R I_25 := hR.up0 ra (by decide) e_26 (i_lo _) (i_hi _)
        have hf_28 : Fm (fun c => c = o) I0 I_25 := hf.set (by first | rfl | omega | (dsimp only; omega)) e_26
        have t_29 : (I_25 o 6).toInt = (I o 6).toInt := by rw [← e_26, q_u_k (by decide)]
        have t_30 : (I_25 o 7).toInt = (I o 7).toInt := by rw [← e_26, q_u_k (by decide)]
        have t_31 : (I_25 o 8).toInt = (1 : Int32).toInt := by rw [← e_26, q_u_at]
        have t_32 : (I_25 o 9).toInt = (I o 9).toInt := by rw [← e_26, q_u_k (by decide)]
        have t_33 : (I_25 o 3).toInt = (I o 3).toInt := by rw [← e_26, q_u_k (by decide)]
        have t_34 : (I_25 o 4).toInt = (I o 4).toInt := by rw [← e_26, q_u_k (by decide)]
        have t_35 : (I_25 o 35).toInt = (I o 35).toInt := by rw [← e_26, q_u_k (by decide)]
        have t_36 : (I_25 o 44).toInt = (I o 44).toInt := by rw [← e_26, q_u_k (by decide)]
        have t_37 : (I_25 o 45).toInt = (I o 45).toInt := by rw [← e_26, q_u_k (by decide)]
        have t_38 : (I_25 o 46).toInt = (I o 46).toInt := by rw [← e_26, q_u_k (by decide)]
        have t_39 : (I_25 o 47).toInt = (I o 47).toInt := by rw [← e_26, q_u_k (by decide)]
        have t_40 : (I_25 o 48).toInt = (I o 48).toInt := by rw [← e_26, q_u_k (by decide)]
        have t_41 : (I_25 o 49).toInt = (I o 49).toInt := by rw [← e_26, q_u_k (by decide)]
        have t_42 : (I_25 o 67).toInt = (I o 67).toInt := by rw [← e_26, q_u_k (by decide)]
        exact (hp _ _ hR_27 hf_28 (by first | omega | (intro h; omega) | exact Or.inl rfl | exact Or.inr rfl) (by first | omega | (intro h; omega) | exact Or.inl rfl | exact Or.inr rfl) (by intro _; omega) (by intro _; omega) (by first | omega | (intro h; omega) | exact Or.inl rfl | exact Or.inr rfl) (by first | omega | (intro h; omega) | exact Or.inl rfl | exact Or.inr rfl) (by first | omega | (intro h; omega) | exact Or.inl rfl | exact Or.inr rfl) (by first | omega | (intro h; omega) | exact Or.inl rfl | exact Or.inr rfl) (by first | omega | (intro h; omega) | exact Or.inl rfl | exact Or.inr rfl) (by first | omega | (intro h; omega) | exact Or.inl rfl | exact Or.inr rfl) (by first | omega | (intro h; omega) | exact Or.inl rfl | exact Or.inr rfl) (by first | omega | (intro h; omega) | exact Or.inl rfl | exact Or.inr rfl) (by first | omega | (intro h; omega) | exact Or.inl rfl | exact Or.inr rfl) (by first | omega | (intro h; omega) | exact Or.inl rfl | exact Or.inr rfl))
      · have d_43 := iNlt c_22
        have g_44 : (0 : Int) ≤ (I o 7).toInt ∧ (I o 7).toInt ≤ 1601 := hR.at0 ra 7 (by decide)
        refine y_Model_sign hok hw ra (by first | omega | (intro h; omega) | exact Or.inl rfl | exact Or.inr rfl) hR (fun r_45 u_46 u_47 => ⟨r_45, I, L, rfl, rfl, ?_⟩)
        refine y_Model_isLetter hok hR (fun r_48 u_49 u_50 => ⟨r_48, I, L, rfl, rfl, ?_⟩)
        have b_51 : 0 ≤ r_48.toInt ∧ r_48.toInt ≤ 1 := u_49.rg
        refine ⟨fun c_52 => ?_, fun c_52 => ?_⟩
        · have d_53 := iEq c_52
          unfold fModel_next_459
          refine fun I_54 e_55 => ?_
          have hR_56 : RI R I_54 := hR.up0 ra (by decide) e_55 (i_lo _) (i_hi _)
          have hf_57 : Fm (fun c => c = o) I0 I_54 := hf.set (by first | rfl | omega | (dsimp only; omega)) e_55
          have t_58 : (I_54 o 6).toInt = (I o 6).toInt := by rw [← e_55, q_u_k (by decide)]
          have t_59 : (I_54 o 7).toInt = (I o 7).toInt := by rw [← e_55, q_u_k (by decide)]
          have t_60 : (I_54 o 8).toInt = (4 : Int32).toInt := by rw [← e_55, q_u_at]
          have t_61 : (I_54 o 9).toInt = (I o 9).toInt := by rw [← e_55, q_u_k (by decide)]
          have t_62 : (I_54 o 3).toInt = (I o 3).toInt := by rw [← e_55, q_u_k (by decide)]
          have t_63 : (I_54 o 4).toInt = (I o 4).toInt := by rw [← e_55, q_u_k (by decide)]
          have t_64 : (I_54 o 35).toInt = (I o 35).toInt := by rw [← e_55, q_u_k (by decide)]
          have t_65 : (I_54 o 44).toInt = (I o 44).toInt := by rw [← e_55, q_u_k (by decide)]
          have t_66 : (I_54 o 45).toInt = (I o 45).toInt := by rw [← e_55, q_u_k (by decide)]
          have t_67 : (I_54 o 46).toInt = (I o 46).toInt := by rw [← e_55, q_u_k (by decide)]
          have t_68 : (I_54 o 47).toInt = (I o 47).toInt := by rw [← e_55, q_u_k (by decide)]
          have t_69 : (I_54 o 48).toInt = (I o 48).toInt := by rw [← e_55, q_u_k (by decide)]
          have t_70 : (I_54 o 49).toInt = (I o 49).toInt := by rw [← e_55, q_u_k (by decide)]
          have t_71 : (I_54 o 67).toInt = (I o 67).toInt := by rw [← e_55, q_u_k (by decide)]
          exact (hp _ _ hR_56 hf_57 (by first | omega | (intro h; omega) | exact Or.inl rfl | exact Or.inr rfl) (by first | omega | (intro h; omega) | exact Or.inl rfl | exact Or.inr rfl) (by intro _; omega) (by intro _; omega) (by first | omega | (intro h; omega) | exact Or.inl rfl | exact Or.inr rfl) (by first | omega | (intro h; omega) | exact Or.inl rfl | exact Or.inr rfl) (by first | omega | (intro h; omega) | exact Or.inl rfl | exact Or.inr rfl) (by first | omega | (intro h; omega) | exact Or.inl rfl | exact Or.inr rfl) (by first | omega | (intro h; omega) | exact Or.inl rfl | exact Or.inr rfl) (by first | omega | (intro h; omega) | exact Or.inl rfl | exact Or.inr rfl) (by first | omega | (intro h; omega) | exact Or.inl rfl | exact Or.inr rfl) (by first | omega | (intro h; omega) | exact Or.inl rfl | exact Or.inr rfl) (by first | omega | (intro h; omega) | exact Or.inl rfl | exact Or.inr rfl) (by first | omega | (intro h; omega) | exact Or.inl rfl | exact Or.inr rfl))
        · have d_72 := iNe c_52
          unfold fModel_next_454
          unfold fModel_next_459
          have l_73 : (1 : Int32).toInt = 1 := rfl
          refine fun I_74 e_75 => ?_
          have hR_76 : RI R I_74 := hR.up0 ra (by decide) e_75 (i_lo _) (i_hi _)
          have hf_77 : Fm (fun c => c = o) I0 I_74 := hf.set (by first | rfl | omega | (dsimp only; omega)) e_75
          have t_78 : (I_74 o 6).toInt = (I o 6).toInt := by rw [← e_75, q_u_k (by decide)]
          have t_79 : (I_74 o 7).toInt = (I o 7).toInt := by rw [← e_75, q_u_k (by decide)]
          have t_80 : (I_74 o 8).toInt = (1 : Int32).toInt := by rw [← e_75, q_u_at]
          have t_81 : (I_74 o 9).toInt = (I o 9).toInt := by rw [← e_75, q_u_k (by decide)]
          have t_82 : (I_74 o 3).toInt = (I o 3).toInt := by rw [← e_75, q_u_k (by decide)]
          have t_83 : (I_74 o 4).toInt = (I o 4).toInt := by rw [← e_75, q_u_k (by decide)]
          have t_84 : (I_74 o 35).toInt = (I o 35).toInt := by rw [← e_75, q_u_k (by decide)]
          have t_85 : (I_74 o 44).toInt = (I o 44).toInt := by rw [← e_75, q_u_k (by decide)]
          have t_86 : (I_74 o 45).toInt = (I o 45).toInt := by rw [← e_75, q_u_k (by decide)]
          have t_87 : (I_74 o 46).toInt = (I o 46).toInt := by rw [← e_75, q_u_k (by decide)]
          have t_88 : (I_74 o 47).toInt = (I o 47).toInt := by rw [← e_75, q_u_k (by decide)]
          have t_89 : (I_74 o 48).toInt = (I o 48).toInt := by rw [← e_75, q_u_k (by decide)]
          have t_90 : (I_74 o 49).toInt = (I o 49).toInt := by rw [← e_75, q_u_k (by decide)]
          have t_91 : (I_74 o 67).toInt = (I o 67).toInt := by rw [← e_75, q_u_k (by decide)]
          exact (hp _ _ hR_76 hf_77 (by first | omega | (intro h; omega) | exact Or.inl rfl | exact Or.inr rfl) (by first | omega | (intro h; omega) | exact Or.inl rfl | exact Or.inr rfl) (by intro _; omega) (by intro _; omega) (by first | omega | (intro h; omega) | exact Or.inl rfl | exact Or.inr rfl) (by first | omega | (intro h; omega) | exact Or.inl rfl | exact Or.inr rfl) (by first | omega | (intro h; omega) | exact Or.inl rfl | exact Or.inr rfl) (by first | omega | (intro h; omega) | exact Or.inl rfl | exact Or.inr rfl) (by first | omega | (intro h; omega) | exact Or.inl rfl | exact Or.inr rfl) (by first | omega | (intro h; omega) | exact Or.inl rfl | exact Or.inr rfl) (by first | omega | (intro h; omega) | exact Or.inl rfl | exact Or.inr rfl) (by first | omega | (intro h; omega) | exact Or.inl rfl | exact Or.inr rfl) (by first | omega | (intro h; omega) | exact Or.inl rfl | exact Or.inr rfl) (by first | omega | (intro h; omega) | exact Or.inl rfl | exact Or.inr rfl))
    · have d_92 := iNe c_16
      have dl := u_8 (by have := u_12 (by omega); omega)
      have g_93 : (0 : Int) ≤ (I o 7).toInt ∧ (I o 7).toInt ≤ 1601 := hR.at0 ra 7 (by decide)
      have g_94 : (0 : Int) ≤ (I o 6).toInt ∧ (I o 6).toInt ≤ 1600 := hR.at0 ra 6 (by decide)
      have a_95 : ((I o 7) - (I o 6)).toInt = (I o 7).toInt - (I o 6).toInt := tSub (by omega) (by omega)
      have l_96 : (4 : Int32).toInt = 4 := rfl
      refine ⟨fun c_97 => ?_, fun c_97 => ?_⟩
      · have d_98 := iLe c_97
        unfold fModel_next_413
        have g_99 : (0 : Int) ≤ (I o 7).toInt ∧ (I o 7).toInt ≤ 1601 := hR.at0 ra 7 (by decide)
        have l_100 : (1 : Int32).toInt = 1 := rfl
        have a_101 : ((I o 7) + 1).toInt = (I o 7).toInt + (1 : Int32).toInt := tAdd (by omega) (by omega)
        refine fun I_102 e_103 => ?_
        have hR_104 : RI R I_102 := hR.up0 ra (by decide) e_103 (show (0 : Int) ≤ ((I o 7) + 1).toInt by omega) (show ((I o 7) + 1).toInt ≤ (1601 : Int) by omega)
        have hf_105 : Fm (fun c => c = o) I0 I_102 := hf.set (by first | rfl | omega | (dsimp only; omega)) e_103
        have t_106 : (I_102 o 6).toInt = (I o 6).toInt := by rw [← e_103, q_u_k (by decide)]
        have t_107 : (I_102 o 7).toInt = ((I o 7) + 1).toInt := by rw [← e_103, q_u_at]
        have t_108 : (I_102 o 8).toInt = (I o 8).toInt := by rw [← e_103, q_u_k (by decide)]
        have t_109 : (I_102 o 9).toInt = (I o 9).toInt := by rw [← e_103, q_u_k (by decide)]
        have t_110 : (I_102 o 3).toInt = (I o 3).toInt := by rw [← e_103, q_u_k (by decide)]
        have t_111 : (I_102 o 4).toInt = (I o 4).toInt := by rw [← e_103, q_u_k (by decide)]
        have t_112 : (I_102 o 35).toInt = (I o 35).toInt := by rw [← e_103, q_u_k (by decide)]
        have t_113 : (I_102 o 44).toInt = (I o 44).toInt := by rw [← e_103, q_u_k (by decide)]
        have t_114 : (I_102 o 45).toInt = (I o 45).toInt := by rw [← e_103, q_u_k (by decide)]
        have t_115 : (I_102 o 46).toInt = (I o 46).toInt := by rw [← e_103, q_u_k (by decide)]
        have t_116 : (I_102 o 47).toInt = (I o 47).toInt := by rw [← e_103, q_u_k (by decide)]
        have t_117 : (I_102 o 48).toInt = (I o 48).toInt := by rw [← e_103, q_u_k (by decide)]
        have t_118 : (I_102 o 49).toInt = (I o 49).toInt := by rw [← e_103, q_u_k (by decide)]
        have t_119 : (I_102 o 67).toInt = (I o 67).toInt := by rw [← e_103, q_u_k (by decide)]
        exact ih hR_104 hf_105 (by first | omega | (intro h; omega) | exact Or.inl rfl | exact Or.inr rfl) (by first | omega | (intro h; omega) | exact Or.inl rfl | exact Or.inr rfl) (by first | exact sgLo sc (by omega) (by omega) | exact sgLo (a := I o 6) rfl (by omega) (by omega)) (by first | exact sgHi sc (by omega) (by omega) | exact sgHi (a := I o 6) rfl (by omega) (by omega)) (by first | omega | (intro h; omega) | exact Or.inl rfl | exact Or.inr rfl) (by first | omega | (intro h; omega) | exact Or.inl rfl | exact Or.inr rfl) (by first | omega | (intro h; omega) | exact Or.inl rfl | exact Or.inr rfl) (by first | omega | (intro h; omega) | exact Or.inl rfl | exact Or.inr rfl) (by first | omega | (intro h; omega) | exact Or.inl rfl | exact Or.inr rfl) (by first | omega | (intro h; omega) | exact Or.inl rfl | exact Or.inr rfl) (by first | omega | (intro h; omega) | exact Or.inl rfl | exact Or.inr rfl) (by first | omega | (intro h; omega) | exact Or.inl rfl | exact Or.inr rfl) (by first | omega | (intro h; omega) | exact Or.inl rfl | exact Or.inr rfl) (by first | omega | (intro h; omega) | exact Or.inl rfl | exact Or.inr rfl) (by first | omega | (intro h; omega) | exact Or.inl rfl | exact Or.inr rfl) (by omega)
      · have d_120 := iNle c_97
        have g_121 : (0 : Int) ≤ (I o 7).toInt ∧ (I o 7).toInt ≤ 1601 := hR.at0 ra 7 (by decide)
        refine y_Model_sign hok hw ra (by first | omega | (intro h; omega) | exact Or.inl rfl | exact Or.inr rfl) hR (fun r_122 u_123 u_124 => ⟨r_122, I, L, rfl, rfl, ?_⟩)
        refine fun I_125 e_126 => ?_
        have hR_127 : RI R I_125 := hR.up0 ra (by decide) e_126 (i_lo _) (i_hi _)
        have hf_128 : Fm (fun c => c = o) I0 I_125 := hf.set (by first | rfl | omega | (dsimp only; omega)) e_126
        have t_129 : (I_125 o 6).toInt = (I o 6).toInt := by rw [← e_126, q_u_k (by decide)]
        have t_130 : (I_125 o 7).toInt = (I o 7).toInt := by rw [← e_126, q_u_k (by decide)]
        have t_131 : (I_125 o 8).toInt = (I o 8).toInt := by rw [← e_126, q_u_k (by decide)]
        have t_132 : (I_125 o 9).toInt = (((10 * (I o 9)) + r_122) - 48).toInt := by rw [← e_126, q_u_at]
        have t_133 : (I_125 o 3).toInt = (I o 3).toInt := by rw [← e_126, q_u_k (by decide)]
        have t_134 : (I_125 o 4).toInt = (I o 4).toInt := by rw [← e_126, q_u_k (by decide)]
        have t_135 : (I_125 o 35).toInt = (I o 35).toInt := by rw [← e_126, q_u_k (by decide)]
        have t_136 : (I_125 o 44).toInt = (I o 44).toInt := by rw [← e_126, q_u_k (by decide)]
        have t_137 : (I_125 o 45).toInt = (I o 45).toInt := by rw [← e_126, q_u_k (by decide)]
        have t_138 : (I_125 o 46).toInt = (I o 46).toInt := by rw [← e_126, q_u_k (by decide)]
        have t_139 : (I_125 o 47).toInt = (I o 47).toInt := by rw [← e_126, q_u_k (by decide)]
        have t_140 : (I_125 o 48).toInt = (I o 48).toInt := by rw [← e_126, q_u_k (by decide)]
        have t_141 : (I_125 o 49).toInt = (I o 49).toInt := by rw [← e_126, q_u_k (by decide)]
        have t_142 : (I_125 o 67).toInt = (I o 67).toInt := by rw [← e_126, q_u_k (by decide)]
        unfold fModel_next_413
        have g_143 : (0 : Int) ≤ (I_125 o 7).toInt ∧ (I_125 o 7).toInt ≤ 1601 := hR_127.at0 ra 7 (by decide)
        have l_144 : (1 : Int32).toInt = 1 := rfl
        have a_145 : ((I_125 o 7) + 1).toInt = (I_125 o 7).toInt + (1 : Int32).toInt := tAdd (by omega) (by omega)
        refine fun I_146 e_147 => ?_
        have hR_148 : RI R I_146 := hR_127.up0 ra (by decide) e_147 (show (0 : Int) ≤ ((I_125 o 7) + 1).toInt by omega) (show ((I_125 o 7) + 1).toInt ≤ (1601 : Int) by omega)
        have hf_149 : Fm (fun c => c = o) I0 I_146 := hf_128.set (by first | rfl | omega | (dsimp only; omega)) e_147
        have t_150 : (I_146 o 6).toInt = (I_125 o 6).toInt := by rw [← e_147, q_u_k (by decide)]
        have t_151 : (I_146 o 7).toInt = ((I_125 o 7) + 1).toInt := by rw [← e_147, q_u_at]
        have t_152 : (I_146 o 8).toInt = (I_125 o 8).toInt := by rw [← e_147, q_u_k (by decide)]
        have t_153 : (I_146 o 9).toInt = (I_125 o 9).toInt := by rw [← e_147, q_u_k (by decide)]
        have t_154 : (I_146 o 3).toInt = (I_125 o 3).toInt := by rw [← e_147, q_u_k (by decide)]
        have t_155 : (I_146 o 4).toInt = (I_125 o 4).toInt := by rw [← e_147, q_u_k (by decide)]
        have t_156 : (I_146 o 35).toInt = (I_125 o 35).toInt := by rw [← e_147, q_u_k (by decide)]
        have t_157 : (I_146 o 44).toInt = (I_125 o 44).toInt := by rw [← e_147, q_u_k (by decide)]
        have t_158 : (I_146 o 45).toInt = (I_125 o 45).toInt := by rw [← e_147, q_u_k (by decide)]
        have t_159 : (I_146 o 46).toInt = (I_125 o 46).toInt := by rw [← e_147, q_u_k (by decide)]
        have t_160 : (I_146 o 47).toInt = (I_125 o 47).toInt := by rw [← e_147, q_u_k (by decide)]
        have t_161 : (I_146 o 48).toInt = (I_125 o 48).toInt := by rw [← e_147, q_u_k (by decide)]
        have t_162 : (I_146 o 49).toInt = (I_125 o 49).toInt := by rw [← e_147, q_u_k (by decide)]
        have t_163 : (I_146 o 67).toInt = (I_125 o 67).toInt := by rw [← e_147, q_u_k (by decide)]
        exact ih hR_148 hf_149 (by first | omega | (intro h; omega) | exact Or.inl rfl | exact Or.inr rfl) (by first | omega | (intro h; omega) | exact Or.inl rfl | exact Or.inr rfl) (by first | exact sgLo sc (by omega) (by omega) | exact sgLo (a := I o 6) rfl (by omega) (by omega)) (by first | exact sgHi sc (by omega) (by omega) | exact sgHi (a := I o 6) rfl (by omega) (by omega)) (by first | omega | (intro h; omega) | exact Or.inl rfl | exact Or.inr rfl) (by first | omega | (intro h; omega) | exact Or.inl rfl | exact Or.inr rfl) (by first | omega | (intro h; omega) | exact Or.inl rfl | exact Or.inr rfl) (by first | omega | (intro h; omega) | exact Or.inl rfl | exact Or.inr rfl) (by first | omega | (intro h; omega) | exact Or.inl rfl | exact Or.inr rfl) (by first | omega | (intro h; omega) | exact Or.inl rfl | exact Or.inr rfl) (by first | omega | (intro h; omega) | exact Or.inl rfl | exact Or.inr rfl) (by first | omega | (intro h; omega) | exact Or.inl rfl | exact Or.inr rfl) (by first | omega | (intro h; omega) | exact Or.inl rfl | exact Or.inr rfl) (by first | omega | (intro h; omega) | exact Or.inl rfl | exact Or.inr rfl) (by first | omega | (intro h; omega) | exact Or.inl rfl | exact Or.inr rfl) (by omega)
set_option maxHeartbeats 4000000 in
set_option maxRecDepth 20000 in
theorem yModel_next_260 {D : va_G} {cA : FieldType → ClassId} {b : Nat} {E : State → Prop} {R : qRg} {o n : Nat} {sh : Nat → qC} {Rf : Nat → Nat → Option Nat} {I0 : Nat → Nat → Int32} {L0 : Nat → Nat → Int64} {post : Option Value → qS → Prop} (hok : q_ok (qGG D cA b E)) (hw : WfModel (qGG D cA b E) n sh Rf o) (ra : RAModel R o) (hq0 : (I0 o 7).toInt ≤ (I0 o 3).toInt) (hp : ∀ (I' : Nat → Nat → Int32) (L' : Nat → Nat → Int64), RI R I' → Fm (fun c => c = o) I0 I' → ((I' o 7).toInt ≤ (I' o 3).toInt) → ((I0 o 7).toInt ≤ (I' o 7).toInt) → (Im ((I' o 8).toInt ≠ 0) ((I0 o 7).toInt < (I' o 7).toInt)) → (Im ((I' o 8).toInt = 5) (0 ≤ (I' o 9).toInt ∧ (I' o 9).toInt ≤ 15)) → ((I' o 3).toInt = (I0 o 3).toInt) → ((I' o 4).toInt = (I0 o 4).toInt) → ((I' o 35).toInt = (I0 o 35).toInt) → ((I' o 44).toInt = (I0 o 44).toInt) → ((I' o 45).toInt = (I0 o 45).toInt) → ((I' o 46).toInt = (I0 o 46).toInt) → ((I' o 47).toInt = (I0 o 47).toInt) → ((I' o 48).toInt = (I0 o 48).toInt) → ((I' o 49).toInt = (I0 o 49).toInt) → ((I' o 67).toInt = (I0 o 67).toInt) → post none (n, sh, Rf, I', L')) : ∀ (k : Nat) {x1 : Int32} {x2 : Int32} {I : Nat → Nat → Int32} {L : Nat → Nat → Int64}, RI R I → Fm (fun c => c = o) I0 I → ((0 : Int) ≤ x2.toInt ∧ x2.toInt ≤ 1601) → ((I0 o 7).toInt ≤ (I o 6).toInt) → ((I o 6).toInt < (I o 7).toInt) → ((I o 7).toInt ≤ (I o 3).toInt) → ((I o 3).toInt = (I0 o 3).toInt) → ((I o 4).toInt = (I0 o 4).toInt) → ((I o 35).toInt = (I0 o 35).toInt) → ((I o 44).toInt = (I0 o 44).toInt) → ((I o 45).toInt = (I0 o 45).toInt) → ((I o 46).toInt = (I0 o 46).toInt) → ((I o 47).toInt = (I0 o 47).toInt) → ((I o 48).toInt = (I0 o 48).toInt) → ((I o 49).toInt = (I0 o 49).toInt) → ((I o 67).toInt = (I0 o 67).toInt) → (1601 - x2.toInt).toNat < k → Ev (qGG D cA b E) mModel_next 2 (0, 0) 260 [(0, .ref o), (1, .int x1), (2, .int x2)] [] (n, sh, Rf, I, L) post := by
  intro k
  induction k with
  | zero =>
    intro x1 x2 I L hR hf hi0 hi1 hi2 hi3 hi4 hi5 hi6 hi7 hi8 hi9 hi10 hi11 hi12 hi13 hm
    exact absurd hm (Nat.not_lt_zero _)
  | succ k ih =>
    intro x1 x2 I L hR hf hi0 hi1 hi2 hi3 hi4 hi5 hi6 hi7 hi8 hi9 hi10 hi11 hi12 hi13 hm
    have g_164 : (0 : Int) ≤ (I o 6).toInt ∧ (I o 6).toInt ≤ 1600 := hR.at0 ra 6 (by decide)
    have g_165 : (0 : Int) ≤ (I o 7).toInt ∧ (I o 7).toInt ≤ 1601 := hR.at0 ra 7 (by decide)
    have g_166 : (0 : Int) ≤ (I o 3).toInt ∧ (I o 3).toInt ≤ 1600 := hR.at0 ra 3 (by decide)
    have g_167 : (0 : Int) ≤ (I o 35).toInt ∧ (I o 35).toInt ≤ 1 := hR.at0 ra 35 (by decide)
    have g_168 : (0 : Int) ≤ (I o 67).toInt ∧ (I o 67).toInt ≤ 40 := hR.at0 ra 67 (by decide)
    refine sModel_next_260 o n sh Rf I L post x1 x2 hok hw ?_
    unfold fModel_next_260
    have g_169 : (0 : Int) ≤ (I o 7).toInt ∧ (I o 7).toInt ≤ 1601 := hR.at0 ra 7 (by decide)
    refine ⟨fun c_170 => ?_, fun c_170 => ?_⟩
    · have d_171 := iLe c_170
      unfold fModel_next_303
      have g_172 : (0 : Int) ≤ (I o 7).toInt ∧ (I o 7).toInt ≤ 1601 := hR.at0 ra 7 (by decide)
      have g_173 : (0 : Int) ≤ (I o 6).toInt ∧ (I o 6).toInt ≤ 1600 := hR.at0 ra 6 (by decide)
      have a_174 : ((I o 7) - (I o 6)).toInt = (I o 7).toInt - (I o 6).toInt := tSub (by omega) (by omega)
      have l_175 : (8 : Int32).toInt = 8 := rfl
      refine ⟨fun c_176 => ?_, fun c_176 => ?_⟩
      · have d_177 := iLe c_176
        refine y_Model_isKept hok hR (fun r_178 u_179 => ⟨r_178, I, L, rfl, rfl, ?_⟩)
        have b_180 : 0 ≤ r_178.toInt ∧ r_178.toInt ≤ 1 := u_179.rg
        have l_181 : (0 : Int32).toInt = 0 := rfl
        refine ⟨fun c_182 => ?_, fun c_182 => ?_⟩
        · have d_183 := iEq c_182
          unfold fModel_next_337
          have l_184 : (2 : Int32).toInt = 2 := rfl
          refine fun I_185 e_186 => ?_
          have hR_187 : RI R I_185 := hR.up0 ra (by decide) e_186 (i_lo _) (i_hi _)
          have hf_188 : Fm (fun c => c = o) I0 I_185 := hf.set (by first | rfl | omega | (dsimp only; omega)) e_186
          have t_189 : (I_185 o 6).toInt = (I o 6).toInt := by rw [← e_186, q_u_k (by decide)]
          have t_190 : (I_185 o 7).toInt = (I o 7).toInt := by rw [← e_186, q_u_k (by decide)]
          have t_191 : (I_185 o 8).toInt = (2 : Int32).toInt := by rw [← e_186, q_u_at]
          have t_192 : (I_185 o 9).toInt = (I o 9).toInt := by rw [← e_186, q_u_k (by decide)]
          have t_193 : (I_185 o 3).toInt = (I o 3).toInt := by rw [← e_186, q_u_k (by decide)]
          have t_194 : (I_185 o 4).toInt = (I o 4).toInt := by rw [← e_186, q_u_k (by decide)]
          have t_195 : (I_185 o 35).toInt = (I o 35).toInt := by rw [← e_186, q_u_k (by decide)]
          have t_196 : (I_185 o 44).toInt = (I o 44).toInt := by rw [← e_186, q_u_k (by decide)]
          have t_197 : (I_185 o 45).toInt = (I o 45).toInt := by rw [← e_186, q_u_k (by decide)]
          have t_198 : (I_185 o 46).toInt = (I o 46).toInt := by rw [← e_186, q_u_k (by decide)]
          have t_199 : (I_185 o 47).toInt = (I o 47).toInt := by rw [← e_186, q_u_k (by decide)]
          have t_200 : (I_185 o 48).toInt = (I o 48).toInt := by rw [← e_186, q_u_k (by decide)]
          have t_201 : (I_185 o 49).toInt = (I o 49).toInt := by rw [← e_186, q_u_k (by decide)]
          have t_202 : (I_185 o 67).toInt = (I o 67).toInt := by rw [← e_186, q_u_k (by decide)]
          exact (hp _ _ hR_187 hf_188 (by first | omega | (intro h; omega) | exact Or.inl rfl | exact Or.inr rfl) (by first | omega | (intro h; omega) | exact Or.inl rfl | exact Or.inr rfl) (by intro _; omega) (by intro _; omega) (by first | omega | (intro h; omega) | exact Or.inl rfl | exact Or.inr rfl) (by first | omega | (intro h; omega) | exact Or.inl rfl | exact Or.inr rfl) (by first | omega | (intro h; omega) | exact Or.inl rfl | exact Or.inr rfl) (by first | omega | (intro h; omega) | exact Or.inl rfl | exact Or.inr rfl) (by first | omega | (intro h; omega) | exact Or.inl rfl | exact Or.inr rfl) (by first | omega | (intro h; omega) | exact Or.inl rfl | exact Or.inr rfl) (by first | omega | (intro h; omega) | exact Or.inl rfl | exact Or.inr rfl) (by first | omega | (intro h; omega) | exact Or.inl rfl | exact Or.inr rfl) (by first | omega | (intro h; omega) | exact Or.inl rfl | exact Or.inr rfl) (by first | omega | (intro h; omega) | exact Or.inl rfl | exact Or.inr rfl))
        · have d_203 := iNe c_182
          unfold fModel_next_337
          have l_204 : (3 : Int32).toInt = 3 := rfl
          refine fun I_205 e_206 => ?_
          have hR_207 : RI R I_205 := hR.up0 ra (by decide) e_206 (i_lo _) (i_hi _)
          have hf_208 : Fm (fun c => c = o) I0 I_205 := hf.set (by first | rfl | omega | (dsimp only; omega)) e_206
          have t_209 : (I_205 o 6).toInt = (I o 6).toInt := by rw [← e_206, q_u_k (by decide)]
          have t_210 : (I_205 o 7).toInt = (I o 7).toInt := by rw [← e_206, q_u_k (by decide)]
          have t_211 : (I_205 o 8).toInt = (3 : Int32).toInt := by rw [← e_206, q_u_at]
          have t_212 : (I_205 o 9).toInt = (I o 9).toInt := by rw [← e_206, q_u_k (by decide)]
          have t_213 : (I_205 o 3).toInt = (I o 3).toInt := by rw [← e_206, q_u_k (by decide)]
          have t_214 : (I_205 o 4).toInt = (I o 4).toInt := by rw [← e_206, q_u_k (by decide)]
          have t_215 : (I_205 o 35).toInt = (I o 35).toInt := by rw [← e_206, q_u_k (by decide)]
          have t_216 : (I_205 o 44).toInt = (I o 44).toInt := by rw [← e_206, q_u_k (by decide)]
          have t_217 : (I_205 o 45).toInt = (I o 45).toInt := by rw [← e_206, q_u_k (by decide)]
          have t_218 : (I_205 o 46).toInt = (I o 46).toInt := by rw [← e_206, q_u_k (by decide)]
          have t_219 : (I_205 o 47).toInt = (I o 47).toInt := by rw [← e_206, q_u_k (by decide)]
          have t_220 : (I_205 o 48).toInt = (I o 48).toInt := by rw [← e_206, q_u_k (by decide)]
          have t_221 : (I_205 o 49).toInt = (I o 49).toInt := by rw [← e_206, q_u_k (by decide)]
          have t_222 : (I_205 o 67).toInt = (I o 67).toInt := by rw [← e_206, q_u_k (by decide)]
          exact (hp _ _ hR_207 hf_208 (by first | omega | (intro h; omega) | exact Or.inl rfl | exact Or.inr rfl) (by first | omega | (intro h; omega) | exact Or.inl rfl | exact Or.inr rfl) (by intro _; omega) (by intro _; omega) (by first | omega | (intro h; omega) | exact Or.inl rfl | exact Or.inr rfl) (by first | omega | (intro h; omega) | exact Or.inl rfl | exact Or.inr rfl) (by first | omega | (intro h; omega) | exact Or.inl rfl | exact Or.inr rfl) (by first | omega | (intro h; omega) | exact Or.inl rfl | exact Or.inr rfl) (by first | omega | (intro h; omega) | exact Or.inl rfl | exact Or.inr rfl) (by first | omega | (intro h; omega) | exact Or.inl rfl | exact Or.inr rfl) (by first | omega | (intro h; omega) | exact Or.inl rfl | exact Or.inr rfl) (by first | omega | (intro h; omega) | exact Or.inl rfl | exact Or.inr rfl) (by first | omega | (intro h; omega) | exact Or.inl rfl | exact Or.inr rfl) (by first | omega | (intro h; omega) | exact Or.inl rfl | exact Or.inr rfl))
      · have d_223 := iNle c_176
        unfold fModel_next_337
        have l_224 : (1 : Int32).toInt = 1 := rfl
        refine fun I_225 e_226 => ?_
        have hR_227 : RI R I_225 := hR.up0 ra (by decide) e_226 (i_lo _) (i_hi _)
        have hf_228 : Fm (fun c => c = o) I0 I_225 := hf.set (by first | rfl | omega | (dsimp only; omega)) e_226
        have t_229 : (I_225 o 6).toInt = (I o 6).toInt := by rw [← e_226, q_u_k (by decide)]
        have t_230 : (I_225 o 7).toInt = (I o 7).toInt := by rw [← e_226, q_u_k (by decide)]
        have t_231 : (I_225 o 8).toInt = (1 : Int32).toInt := by rw [← e_226, q_u_at]
        have t_232 : (I_225 o 9).toInt = (I o 9).toInt := by rw [← e_226, q_u_k (by decide)]
        have t_233 : (I_225 o 3).toInt = (I o 3).toInt := by rw [← e_226, q_u_k (by decide)]
        have t_234 : (I_225 o 4).toInt = (I o 4).toInt := by rw [← e_226, q_u_k (by decide)]
        have t_235 : (I_225 o 35).toInt = (I o 35).toInt := by rw [← e_226, q_u_k (by decide)]
        have t_236 : (I_225 o 44).toInt = (I o 44).toInt := by rw [← e_226, q_u_k (by decide)]
        have t_237 : (I_225 o 45).toInt = (I o 45).toInt := by rw [← e_226, q_u_k (by decide)]
        have t_238 : (I_225 o 46).toInt = (I o 46).toInt := by rw [← e_226, q_u_k (by decide)]
        have t_239 : (I_225 o 47).toInt = (I o 47).toInt := by rw [← e_226, q_u_k (by decide)]
        have t_240 : (I_225 o 48).toInt = (I o 48).toInt := by rw [← e_226, q_u_k (by decide)]
        have t_241 : (I_225 o 49).toInt = (I o 49).toInt := by rw [← e_226, q_u_k (by decide)]
        have t_242 : (I_225 o 67).toInt = (I o 67).toInt := by rw [← e_226, q_u_k (by decide)]
        exact (hp _ _ hR_227 hf_228 (by first | omega | (intro h; omega) | exact Or.inl rfl | exact Or.inr rfl) (by first | omega | (intro h; omega) | exact Or.inl rfl | exact Or.inr rfl) (by intro _; omega) (by intro _; omega) (by first | omega | (intro h; omega) | exact Or.inl rfl | exact Or.inr rfl) (by first | omega | (intro h; omega) | exact Or.inl rfl | exact Or.inr rfl) (by first | omega | (intro h; omega) | exact Or.inl rfl | exact Or.inr rfl) (by first | omega | (intro h; omega) | exact Or.inl rfl | exact Or.inr rfl) (by first | omega | (intro h; omega) | exact Or.inl rfl | exact Or.inr rfl) (by first | omega | (intro h; omega) | exact Or.inl rfl | exact Or.inr rfl) (by first | omega | (intro h; omega) | exact Or.inl rfl | exact Or.inr rfl) (by first | omega | (intro h; omega) | exact Or.inl rfl | exact Or.inr rfl) (by first | omega | (intro h; omega) | exact Or.inl rfl | exact Or.inr rfl) (by first | omega | (intro h; omega) | exact Or.inl rfl | exact Or.inr rfl))
    · have d_243 := iNle c_170
      have g_244 : (0 : Int) ≤ (I o 6).toInt ∧ (I o 6).toInt ≤ 1600 := hR.at0 ra 6 (by decide)
      have l_245 : (8 : Int32).toInt = 8 := rfl
      have a_246 : ((I o 6) + 8).toInt = (I o 6).toInt + (8 : Int32).toInt := tAdd (by omega) (by omega)
      refine ⟨fun c_247 => ?_, fun c_247 => ?_⟩
      · have d_248 := iLe c_247
        unfold fModel_next_303
        have g_249 : (0 : Int) ≤ (I o 7).toInt ∧ (I o 7).toInt ≤ 1601 := hR.at0 ra 7 (by decide)
        have g_250 : (0 : Int) ≤ (I o 6).toInt ∧ (I o 6).toInt ≤ 1600 := hR.at0 ra 6 (by decide)
        have a_251 : ((I o 7) - (I o 6)).toInt = (I o 7).toInt - (I o 6).toInt := tSub (by omega) (by omega)
        refine ⟨fun c_252 => ?_, fun c_252 => ?_⟩
        · have d_253 := iLe c_252
          refine y_Model_isKept hok hR (fun r_254 u_255 => ⟨r_254, I, L, rfl, rfl, ?_⟩)
          have b_256 : 0 ≤ r_254.toInt ∧ r_254.toInt ≤ 1 := u_255.rg
          have l_257 : (0 : Int32).toInt = 0 := rfl
          refine ⟨fun c_258 => ?_, fun c_258 => ?_⟩
          · have d_259 := iEq c_258
            unfold fModel_next_337
            have l_260 : (2 : Int32).toInt = 2 := rfl
            refine fun I_261 e_262 => ?_
            have hR_263 : RI R I_261 := hR.up0 ra (by decide) e_262 (i_lo _) (i_hi _)
            have hf_264 : Fm (fun c => c = o) I0 I_261 := hf.set (by first | rfl | omega | (dsimp only; omega)) e_262
            have t_265 : (I_261 o 6).toInt = (I o 6).toInt := by rw [← e_262, q_u_k (by decide)]
            have t_266 : (I_261 o 7).toInt = (I o 7).toInt := by rw [← e_262, q_u_k (by decide)]
            have t_267 : (I_261 o 8).toInt = (2 : Int32).toInt := by rw [← e_262, q_u_at]
            have t_268 : (I_261 o 9).toInt = (I o 9).toInt := by rw [← e_262, q_u_k (by decide)]
            have t_269 : (I_261 o 3).toInt = (I o 3).toInt := by rw [← e_262, q_u_k (by decide)]
            have t_270 : (I_261 o 4).toInt = (I o 4).toInt := by rw [← e_262, q_u_k (by decide)]
            have t_271 : (I_261 o 35).toInt = (I o 35).toInt := by rw [← e_262, q_u_k (by decide)]
            have t_272 : (I_261 o 44).toInt = (I o 44).toInt := by rw [← e_262, q_u_k (by decide)]
            have t_273 : (I_261 o 45).toInt = (I o 45).toInt := by rw [← e_262, q_u_k (by decide)]
            have t_274 : (I_261 o 46).toInt = (I o 46).toInt := by rw [← e_262, q_u_k (by decide)]
            have t_275 : (I_261 o 47).toInt = (I o 47).toInt := by rw [← e_262, q_u_k (by decide)]
            have t_276 : (I_261 o 48).toInt = (I o 48).toInt := by rw [← e_262, q_u_k (by decide)]
            have t_277 : (I_261 o 49).toInt = (I o 49).toInt := by rw [← e_262, q_u_k (by decide)]
            have t_278 : (I_261 o 67).toInt = (I o 67).toInt := by rw [← e_262, q_u_k (by decide)]
            exact (hp _ _ hR_263 hf_264 (by first | omega | (intro h; omega) | exact Or.inl rfl | exact Or.inr rfl) (by first | omega | (intro h; omega) | exact Or.inl rfl | exact Or.inr rfl) (by intro _; omega) (by intro _; omega) (by first | omega | (intro h; omega) | exact Or.inl rfl | exact Or.inr rfl) (by first | omega | (intro h; omega) | exact Or.inl rfl | exact Or.inr rfl) (by first | omega | (intro h; omega) | exact Or.inl rfl | exact Or.inr rfl) (by first | omega | (intro h; omega) | exact Or.inl rfl | exact Or.inr rfl) (by first | omega | (intro h; omega) | exact Or.inl rfl | exact Or.inr rfl) (by first | omega | (intro h; omega) | exact Or.inl rfl | exact Or.inr rfl) (by first | omega | (intro h; omega) | exact Or.inl rfl | exact Or.inr rfl) (by first | omega | (intro h; omega) | exact Or.inl rfl | exact Or.inr rfl) (by first | omega | (intro h; omega) | exact Or.inl rfl | exact Or.inr rfl) (by first | omega | (intro h; omega) | exact Or.inl rfl | exact Or.inr rfl))
          · have d_279 := iNe c_258
            unfold fModel_next_337
            have l_280 : (3 : Int32).toInt = 3 := rfl
            refine fun I_281 e_282 => ?_
            have hR_283 : RI R I_281 := hR.up0 ra (by decide) e_282 (i_lo _) (i_hi _)
            have hf_284 : Fm (fun c => c = o) I0 I_281 := hf.set (by first | rfl | omega | (dsimp only; omega)) e_282
            have t_285 : (I_281 o 6).toInt = (I o 6).toInt := by rw [← e_282, q_u_k (by decide)]
            have t_286 : (I_281 o 7).toInt = (I o 7).toInt := by rw [← e_282, q_u_k (by decide)]
            have t_287 : (I_281 o 8).toInt = (3 : Int32).toInt := by rw [← e_282, q_u_at]
            have t_288 : (I_281 o 9).toInt = (I o 9).toInt := by rw [← e_282, q_u_k (by decide)]
            have t_289 : (I_281 o 3).toInt = (I o 3).toInt := by rw [← e_282, q_u_k (by decide)]
            have t_290 : (I_281 o 4).toInt = (I o 4).toInt := by rw [← e_282, q_u_k (by decide)]
            have t_291 : (I_281 o 35).toInt = (I o 35).toInt := by rw [← e_282, q_u_k (by decide)]
            have t_292 : (I_281 o 44).toInt = (I o 44).toInt := by rw [← e_282, q_u_k (by decide)]
            have t_293 : (I_281 o 45).toInt = (I o 45).toInt := by rw [← e_282, q_u_k (by decide)]
            have t_294 : (I_281 o 46).toInt = (I o 46).toInt := by rw [← e_282, q_u_k (by decide)]
            have t_295 : (I_281 o 47).toInt = (I o 47).toInt := by rw [← e_282, q_u_k (by decide)]
            have t_296 : (I_281 o 48).toInt = (I o 48).toInt := by rw [← e_282, q_u_k (by decide)]
            have t_297 : (I_281 o 49).toInt = (I o 49).toInt := by rw [← e_282, q_u_k (by decide)]
            have t_298 : (I_281 o 67).toInt = (I o 67).toInt := by rw [← e_282, q_u_k (by decide)]
            exact (hp _ _ hR_283 hf_284 (by first | omega | (intro h; omega) | exact Or.inl rfl | exact Or.inr rfl) (by first | omega | (intro h; omega) | exact Or.inl rfl | exact Or.inr rfl) (by intro _; omega) (by intro _; omega) (by first | omega | (intro h; omega) | exact Or.inl rfl | exact Or.inr rfl) (by first | omega | (intro h; omega) | exact Or.inl rfl | exact Or.inr rfl) (by first | omega | (intro h; omega) | exact Or.inl rfl | exact Or.inr rfl) (by first | omega | (intro h; omega) | exact Or.inl rfl | exact Or.inr rfl) (by first | omega | (intro h; omega) | exact Or.inl rfl | exact Or.inr rfl) (by first | omega | (intro h; omega) | exact Or.inl rfl | exact Or.inr rfl) (by first | omega | (intro h; omega) | exact Or.inl rfl | exact Or.inr rfl) (by first | omega | (intro h; omega) | exact Or.inl rfl | exact Or.inr rfl) (by first | omega | (intro h; omega) | exact Or.inl rfl | exact Or.inr rfl) (by first | omega | (intro h; omega) | exact Or.inl rfl | exact Or.inr rfl))
        · have d_299 := iNle c_252
          unfold fModel_next_337
          have l_300 : (1 : Int32).toInt = 1 := rfl
          refine fun I_301 e_302 => ?_
          have hR_303 : RI R I_301 := hR.up0 ra (by decide) e_302 (i_lo _) (i_hi _)
          have hf_304 : Fm (fun c => c = o) I0 I_301 := hf.set (by first | rfl | omega | (dsimp only; omega)) e_302
          have t_305 : (I_301 o 6).toInt = (I o 6).toInt := by rw [← e_302, q_u_k (by decide)]
          have t_306 : (I_301 o 7).toInt = (I o 7).toInt := by rw [← e_302, q_u_k (by decide)]
          have t_307 : (I_301 o 8).toInt = (1 : Int32).toInt := by rw [← e_302, q_u_at]
          have t_308 : (I_301 o 9).toInt = (I o 9).toInt := by rw [← e_302, q_u_k (by decide)]
          have t_309 : (I_301 o 3).toInt = (I o 3).toInt := by rw [← e_302, q_u_k (by decide)]
          have t_310 : (I_301 o 4).toInt = (I o 4).toInt := by rw [← e_302, q_u_k (by decide)]
          have t_311 : (I_301 o 35).toInt = (I o 35).toInt := by rw [← e_302, q_u_k (by decide)]
          have t_312 : (I_301 o 44).toInt = (I o 44).toInt := by rw [← e_302, q_u_k (by decide)]
          have t_313 : (I_301 o 45).toInt = (I o 45).toInt := by rw [← e_302, q_u_k (by decide)]
          have t_314 : (I_301 o 46).toInt = (I o 46).toInt := by rw [← e_302, q_u_k (by decide)]
          have t_315 : (I_301 o 47).toInt = (I o 47).toInt := by rw [← e_302, q_u_k (by decide)]
          have t_316 : (I_301 o 48).toInt = (I o 48).toInt := by rw [← e_302, q_u_k (by decide)]
          have t_317 : (I_301 o 49).toInt = (I o 49).toInt := by rw [← e_302, q_u_k (by decide)]
          have t_318 : (I_301 o 67).toInt = (I o 67).toInt := by rw [← e_302, q_u_k (by decide)]
          exact (hp _ _ hR_303 hf_304 (by first | omega | (intro h; omega) | exact Or.inl rfl | exact Or.inr rfl) (by first | omega | (intro h; omega) | exact Or.inl rfl | exact Or.inr rfl) (by intro _; omega) (by intro _; omega) (by first | omega | (intro h; omega) | exact Or.inl rfl | exact Or.inr rfl) (by first | omega | (intro h; omega) | exact Or.inl rfl | exact Or.inr rfl) (by first | omega | (intro h; omega) | exact Or.inl rfl | exact Or.inr rfl) (by first | omega | (intro h; omega) | exact Or.inl rfl | exact Or.inr rfl) (by first | omega | (intro h; omega) | exact Or.inl rfl | exact Or.inr rfl) (by first | omega | (intro h; omega) | exact Or.inl rfl | exact Or.inr rfl) (by first | omega | (intro h; omega) | exact Or.inl rfl | exact Or.inr rfl) (by first | omega | (intro h; omega) | exact Or.inl rfl | exact Or.inr rfl) (by first | omega | (intro h; omega) | exact Or.inl rfl | exact Or.inr rfl) (by first | omega | (intro h; omega) | exact Or.inl rfl | exact Or.inr rfl))
      · have d_319 := iNle c_247
        refine y_Model_sign hok hw ra (by first | omega | (intro h; omega) | exact Or.inl rfl | exact Or.inr rfl) hR (fun r_320 u_321 u_322 => ⟨r_320, I, L, rfl, rfl, ?_⟩)
        refine fun L_323 e_324 => ?_
        have a_326 : (x2 + Int32.ofInt 1).toInt = x2.toInt + (1) := tIc (by omega) (by omega) (by decide) (by decide)
        generalize ez_325 : (x2 + Int32.ofInt 1) = z_325 at a_326 ⊢
        exact ih hR hf (by first | omega | (intro h; omega) | exact Or.inl rfl | exact Or.inr rfl) (by first | omega | (intro h; omega) | exact Or.inl rfl | exact Or.inr rfl) (by first | omega | (intro h; omega) | exact Or.inl rfl | exact Or.inr rfl) (by first | omega | (intro h; omega) | exact Or.inl rfl | exact Or.inr rfl) (by first | omega | (intro h; omega) | exact Or.inl rfl | exact Or.inr rfl) (by first | omega | (intro h; omega) | exact Or.inl rfl | exact Or.inr rfl) (by first | omega | (intro h; omega) | exact Or.inl rfl | exact Or.inr rfl) (by first | omega | (intro h; omega) | exact Or.inl rfl | exact Or.inr rfl) (by first | omega | (intro h; omega) | exact Or.inl rfl | exact Or.inr rfl) (by first | omega | (intro h; omega) | exact Or.inl rfl | exact Or.inr rfl) (by first | omega | (intro h; omega) | exact Or.inl rfl | exact Or.inr rfl) (by first | omega | (intro h; omega) | exact Or.inl rfl | exact Or.inr rfl) (by first | omega | (intro h; omega) | exact Or.inl rfl | exact Or.inr rfl) (by first | omega | (intro h; omega) | exact Or.inl rfl | exact Or.inr rfl) (by omega)
set_option maxHeartbeats 4000000 in
set_option maxRecDepth 20000 in
theorem yModel_next_223 {D : va_G} {cA : FieldType → ClassId} {b : Nat} {E : State → Prop} {R : qRg} {o n : Nat} {sh : Nat → qC} {Rf : Nat → Nat → Option Nat} {I0 : Nat → Nat → Int32} {L0 : Nat → Nat → Int64} {post : Option Value → qS → Prop} (hok : q_ok (qGG D cA b E)) (hw : WfModel (qGG D cA b E) n sh Rf o) (ra : RAModel R o) (hq0 : (I0 o 7).toInt ≤ (I0 o 3).toInt) (hp : ∀ (I' : Nat → Nat → Int32) (L' : Nat → Nat → Int64), RI R I' → Fm (fun c => c = o) I0 I' → ((I' o 7).toInt ≤ (I' o 3).toInt) → ((I0 o 7).toInt ≤ (I' o 7).toInt) → (Im ((I' o 8).toInt ≠ 0) ((I0 o 7).toInt < (I' o 7).toInt)) → (Im ((I' o 8).toInt = 5) (0 ≤ (I' o 9).toInt ∧ (I' o 9).toInt ≤ 15)) → ((I' o 3).toInt = (I0 o 3).toInt) → ((I' o 4).toInt = (I0 o 4).toInt) → ((I' o 35).toInt = (I0 o 35).toInt) → ((I' o 44).toInt = (I0 o 44).toInt) → ((I' o 45).toInt = (I0 o 45).toInt) → ((I' o 46).toInt = (I0 o 46).toInt) → ((I' o 47).toInt = (I0 o 47).toInt) → ((I' o 48).toInt = (I0 o 48).toInt) → ((I' o 49).toInt = (I0 o 49).toInt) → ((I' o 67).toInt = (I0 o 67).toInt) → post none (n, sh, Rf, I', L')) : ∀ (k : Nat) {x1 : Int32} {I : Nat → Nat → Int32} {L : Nat → Nat → Int64}, RI R I → Fm (fun c => c = o) I0 I → ((I0 o 7).toInt ≤ (I o 6).toInt) → ((I o 6).toInt < (I o 7).toInt) → ((I o 7).toInt ≤ (I o 3).toInt) → ((I o 3).toInt = (I0 o 3).toInt) → ((I o 4).toInt = (I0 o 4).toInt) → ((I o 35).toInt = (I0 o 35).toInt) → ((I o 44).toInt = (I0 o 44).toInt) → ((I o 45).toInt = (I0 o 45).toInt) → ((I o 46).toInt = (I0 o 46).toInt) → ((I o 47).toInt = (I0 o 47).toInt) → ((I o 48).toInt = (I0 o 48).toInt) → ((I o 49).toInt = (I0 o 49).toInt) → ((I o 67).toInt = (I0 o 67).toInt) → (1600 - (I o 7).toInt).toNat < k → Ev (qGG D cA b E) mModel_next 2 (0, 0) 223 [(0, .ref o), (1, .int x1)] [] (n, sh, Rf, I, L) post := by
  intro k
  induction k with
  | zero =>
    intro x1 I L hR hf hi0 hi1 hi2 hi3 hi4 hi5 hi6 hi7 hi8 hi9 hi10 hi11 hi12 hm
    exact absurd hm (Nat.not_lt_zero _)
  | succ k ih =>
    intro x1 I L hR hf hi0 hi1 hi2 hi3 hi4 hi5 hi6 hi7 hi8 hi9 hi10 hi11 hi12 hm
    have g_327 : (0 : Int) ≤ (I o 6).toInt ∧ (I o 6).toInt ≤ 1600 := hR.at0 ra 6 (by decide)
    have g_328 : (0 : Int) ≤ (I o 7).toInt ∧ (I o 7).toInt ≤ 1601 := hR.at0 ra 7 (by decide)
    have g_329 : (0 : Int) ≤ (I o 3).toInt ∧ (I o 3).toInt ≤ 1600 := hR.at0 ra 3 (by decide)
    have g_330 : (0 : Int) ≤ (I o 35).toInt ∧ (I o 35).toInt ≤ 1 := hR.at0 ra 35 (by decide)
    have g_331 : (0 : Int) ≤ (I o 67).toInt ∧ (I o 67).toInt ≤ 40 := hR.at0 ra 67 (by decide)
    refine sModel_next_223 o n sh Rf I L post x1 hok hw ?_
    unfold fModel_next_223
    have g_332 : (0 : Int) ≤ (I o 7).toInt ∧ (I o 7).toInt ≤ 1601 := hR.at0 ra 7 (by decide)
    refine y_Model_sign hok hw ra (by first | omega | (intro h; omega) | exact Or.inl rfl | exact Or.inr rfl) hR (fun r_333 u_334 u_335 => ⟨r_333, I, L, rfl, rfl, ?_⟩)
    refine y_Model_isLetter hok hR (fun r_336 u_337 u_338 => ⟨r_336, I, L, rfl, rfl, ?_⟩)
    have b_339 : 0 ≤ r_336.toInt ∧ r_336.toInt ≤ 1 := u_337.rg
    have l_340 : (0 : Int32).toInt = 0 := rfl
    refine ⟨fun c_341 => ?_, fun c_341 => ?_⟩
    · have d_342 := iEq c_341
      refine fun L_343 e_344 => ?_
      have g_345 : (0 : Int) ≤ (I o 6).toInt ∧ (I o 6).toInt ≤ 1600 := hR.at0 ra 6 (by decide)
      exact yModel_next_260 (I0 := I0) (L0 := L0) hok hw ra hq0 hp  _ hR hf (by first | omega | (intro h; omega) | exact Or.inl rfl | exact Or.inr rfl) (by first | omega | (intro h; omega) | exact Or.inl rfl | exact Or.inr rfl) (by first | omega | (intro h; omega) | exact Or.inl rfl | exact Or.inr rfl) (by first | omega | (intro h; omega) | exact Or.inl rfl | exact Or.inr rfl) (by first | omega | (intro h; omega) | exact Or.inl rfl | exact Or.inr rfl) (by first | omega | (intro h; omega) | exact Or.inl rfl | exact Or.inr rfl) (by first | omega | (intro h; omega) | exact Or.inl rfl | exact Or.inr rfl) (by first | omega | (intro h; omega) | exact Or.inl rfl | exact Or.inr rfl) (by first | omega | (intro h; omega) | exact Or.inl rfl | exact Or.inr rfl) (by first | omega | (intro h; omega) | exact Or.inl rfl | exact Or.inr rfl) (by first | omega | (intro h; omega) | exact Or.inl rfl | exact Or.inr rfl) (by first | omega | (intro h; omega) | exact Or.inl rfl | exact Or.inr rfl) (by first | omega | (intro h; omega) | exact Or.inl rfl | exact Or.inr rfl) (by first | omega | (intro h; omega) | exact Or.inl rfl | exact Or.inr rfl) (Nat.lt_succ_self _)
    · have d_346 := iNe c_341
      have lt := u_334 (by have := u_338 (by omega); omega)
      have g_347 : (0 : Int) ≤ (I o 7).toInt ∧ (I o 7).toInt ≤ 1601 := hR.at0 ra 7 (by decide)
      have l_348 : (1 : Int32).toInt = 1 := rfl
      have a_349 : ((I o 7) + 1).toInt = (I o 7).toInt + (1 : Int32).toInt := tAdd (by omega) (by omega)
      refine fun I_350 e_351 => ?_
      have hR_352 : RI R I_350 := hR.up0 ra (by decide) e_351 (show (0 : Int) ≤ ((I o 7) + 1).toInt by omega) (show ((I o 7) + 1).toInt ≤ (1601 : Int) by omega)
      have hf_353 : Fm (fun c => c = o) I0 I_350 := hf.set (by first | rfl | omega | (dsimp only; omega)) e_351
      have t_354 : (I_350 o 6).toInt = (I o 6).toInt := by rw [← e_351, q_u_k (by decide)]
      have t_355 : (I_350 o 7).toInt = ((I o 7) + 1).toInt := by rw [← e_351, q_u_at]
      have t_356 : (I_350 o 8).toInt = (I o 8).toInt := by rw [← e_351, q_u_k (by decide)]
      have t_357 : (I_350 o 9).toInt = (I o 9).toInt := by rw [← e_351, q_u_k (by decide)]
      have t_358 : (I_350 o 3).toInt = (I o 3).toInt := by rw [← e_351, q_u_k (by decide)]
      have t_359 : (I_350 o 4).toInt = (I o 4).toInt := by rw [← e_351, q_u_k (by decide)]
      have t_360 : (I_350 o 35).toInt = (I o 35).toInt := by rw [← e_351, q_u_k (by decide)]
      have t_361 : (I_350 o 44).toInt = (I o 44).toInt := by rw [← e_351, q_u_k (by decide)]
      have t_362 : (I_350 o 45).toInt = (I o 45).toInt := by rw [← e_351, q_u_k (by decide)]
      have t_363 : (I_350 o 46).toInt = (I o 46).toInt := by rw [← e_351, q_u_k (by decide)]
      have t_364 : (I_350 o 47).toInt = (I o 47).toInt := by rw [← e_351, q_u_k (by decide)]
      have t_365 : (I_350 o 48).toInt = (I o 48).toInt := by rw [← e_351, q_u_k (by decide)]
      have t_366 : (I_350 o 49).toInt = (I o 49).toInt := by rw [← e_351, q_u_k (by decide)]
      have t_367 : (I_350 o 67).toInt = (I o 67).toInt := by rw [← e_351, q_u_k (by decide)]
      exact ih hR_352 hf_353 (by first | omega | (intro h; omega) | exact Or.inl rfl | exact Or.inr rfl) (by first | omega | (intro h; omega) | exact Or.inl rfl | exact Or.inr rfl) (by first | omega | (intro h; omega) | exact Or.inl rfl | exact Or.inr rfl) (by first | omega | (intro h; omega) | exact Or.inl rfl | exact Or.inr rfl) (by first | omega | (intro h; omega) | exact Or.inl rfl | exact Or.inr rfl) (by first | omega | (intro h; omega) | exact Or.inl rfl | exact Or.inr rfl) (by first | omega | (intro h; omega) | exact Or.inl rfl | exact Or.inr rfl) (by first | omega | (intro h; omega) | exact Or.inl rfl | exact Or.inr rfl) (by first | omega | (intro h; omega) | exact Or.inl rfl | exact Or.inr rfl) (by first | omega | (intro h; omega) | exact Or.inl rfl | exact Or.inr rfl) (by first | omega | (intro h; omega) | exact Or.inl rfl | exact Or.inr rfl) (by first | omega | (intro h; omega) | exact Or.inl rfl | exact Or.inr rfl) (by first | omega | (intro h; omega) | exact Or.inl rfl | exact Or.inr rfl) (by omega)
set_option maxHeartbeats 4000000 in
set_option maxRecDepth 20000 in
theorem yModel_next_8 {D : va_G} {cA : FieldType → ClassId} {b : Nat} {E : State → Prop} {R : qRg} {o n : Nat} {sh : Nat → qC} {Rf : Nat → Nat → Option Nat} {I0 : Nat → Nat → Int32} {L0 : Nat → Nat → Int64} {post : Option Value → qS → Prop} (hok : q_ok (qGG D cA b E)) (hw : WfModel (qGG D cA b E) n sh Rf o) (ra : RAModel R o) (hq0 : (I0 o 7).toInt ≤ (I0 o 3).toInt) (hp : ∀ (I' : Nat → Nat → Int32) (L' : Nat → Nat → Int64), RI R I' → Fm (fun c => c = o) I0 I' → ((I' o 7).toInt ≤ (I' o 3).toInt) → ((I0 o 7).toInt ≤ (I' o 7).toInt) → (Im ((I' o 8).toInt ≠ 0) ((I0 o 7).toInt < (I' o 7).toInt)) → (Im ((I' o 8).toInt = 5) (0 ≤ (I' o 9).toInt ∧ (I' o 9).toInt ≤ 15)) → ((I' o 3).toInt = (I0 o 3).toInt) → ((I' o 4).toInt = (I0 o 4).toInt) → ((I' o 35).toInt = (I0 o 35).toInt) → ((I' o 44).toInt = (I0 o 44).toInt) → ((I' o 45).toInt = (I0 o 45).toInt) → ((I' o 46).toInt = (I0 o 46).toInt) → ((I' o 47).toInt = (I0 o 47).toInt) → ((I' o 48).toInt = (I0 o 48).toInt) → ((I' o 49).toInt = (I0 o 49).toInt) → ((I' o 67).toInt = (I0 o 67).toInt) → post none (n, sh, Rf, I', L')) : ∀ (k : Nat)  {I : Nat → Nat → Int32} {L : Nat → Nat → Int64}, RI R I → Fm (fun c => c = o) I0 I → ((I o 7).toInt = (I0 o 7).toInt) → ((I o 7).toInt ≤ (I o 6).toInt) → ((I o 6).toInt ≤ (I o 3).toInt) → ((I o 7).toInt ≤ (I o 3).toInt) → ((I o 3).toInt = (I0 o 3).toInt) → ((I o 4).toInt = (I0 o 4).toInt) → ((I o 35).toInt = (I0 o 35).toInt) → ((I o 44).toInt = (I0 o 44).toInt) → ((I o 45).toInt = (I0 o 45).toInt) → ((I o 46).toInt = (I0 o 46).toInt) → ((I o 47).toInt = (I0 o 47).toInt) → ((I o 48).toInt = (I0 o 48).toInt) → ((I o 49).toInt = (I0 o 49).toInt) → ((I o 67).toInt = (I0 o 67).toInt) → (1600 - (I o 6).toInt).toNat < k → Ev (qGG D cA b E) mModel_next 2 (0, 0) 8 [(0, .ref o)] [] (n, sh, Rf, I, L) post := by
  intro k
  induction k with
  | zero =>
    intro  I L hR hf hi0 hi1 hi2 hi3 hi4 hi5 hi6 hi7 hi8 hi9 hi10 hi11 hi12 hi13 hm
    exact absurd hm (Nat.not_lt_zero _)
  | succ k ih =>
    intro  I L hR hf hi0 hi1 hi2 hi3 hi4 hi5 hi6 hi7 hi8 hi9 hi10 hi11 hi12 hi13 hm
    have g_368 : (0 : Int) ≤ (I o 6).toInt ∧ (I o 6).toInt ≤ 1600 := hR.at0 ra 6 (by decide)
    have g_369 : (0 : Int) ≤ (I o 7).toInt ∧ (I o 7).toInt ≤ 1601 := hR.at0 ra 7 (by decide)
    have g_370 : (0 : Int) ≤ (I o 3).toInt ∧ (I o 3).toInt ≤ 1600 := hR.at0 ra 3 (by decide)
    have g_371 : (0 : Int) ≤ (I o 35).toInt ∧ (I o 35).toInt ≤ 1 := hR.at0 ra 35 (by decide)
    have g_372 : (0 : Int) ≤ (I o 67).toInt ∧ (I o 67).toInt ≤ 40 := hR.at0 ra 67 (by decide)
    refine sModel_next_8 o n sh Rf I L post  hok hw ?_
    unfold fModel_next_8
    have g_373 : (0 : Int) ≤ (I o 6).toInt ∧ (I o 6).toInt ≤ 1600 := hR.at0 ra 6 (by decide)
    have g_374 : (0 : Int) ≤ (I o 3).toInt ∧ (I o 3).toInt ≤ 1600 := hR.at0 ra 3 (by decide)
    refine ⟨fun c_375 => ?_, fun c_375 => ?_⟩
    · have d_376 := iLe c_375
      unfold fModel_next_58
      have g_377 : (0 : Int) ≤ (I o 6).toInt ∧ (I o 6).toInt ≤ 1600 := hR.at0 ra 6 (by decide)
      refine y_Model_sign hok hw ra (by first | omega | (intro h; omega) | exact Or.inl rfl | exact Or.inr rfl) hR (fun r_378 u_379 u_380 => ⟨r_378, I, L, rfl, rfl, ?_⟩)
      obtain ⟨a1, ha1⟩ : ∃ a, a = I o 6 := ⟨_, rfl⟩
      have hA : a1.toInt = (I o 6).toInt := by rw [ha1]
      have sc := u_380
      rw [hf (o + 2) (by first | omega | (dsimp only; omega)), show I o 3 = I0 o 3 from Int32.toInt_inj.mp (by omega), show I o 6 = a1 from Int32.toInt_inj.mp (by omega)] at sc
      have g_381 : (0 : Int) ≤ (I o 6).toInt ∧ (I o 6).toInt ≤ 1600 := hR.at0 ra 6 (by decide)
      have l_382 : (1 : Int32).toInt = 1 := rfl
      have a_383 : ((I o 6) + 1).toInt = (I o 6).toInt + (1 : Int32).toInt := tAdd (by omega) (by omega)
      refine fun I_384 e_385 => ?_
      have hR_386 : RI R I_384 := hR.up0 ra (by decide) e_385 (show (0 : Int) ≤ ((I o 6) + 1).toInt by omega) (show ((I o 6) + 1).toInt ≤ (1601 : Int) by omega)
      have hf_387 : Fm (fun c => c = o) I0 I_384 := hf.set (by first | rfl | omega | (dsimp only; omega)) e_385
      have t_388 : (I_384 o 6).toInt = (I o 6).toInt := by rw [← e_385, q_u_k (by decide)]
      have t_389 : (I_384 o 7).toInt = ((I o 6) + 1).toInt := by rw [← e_385, q_u_at]
      have t_390 : (I_384 o 8).toInt = (I o 8).toInt := by rw [← e_385, q_u_k (by decide)]
      have t_391 : (I_384 o 9).toInt = (I o 9).toInt := by rw [← e_385, q_u_k (by decide)]
      have t_392 : (I_384 o 3).toInt = (I o 3).toInt := by rw [← e_385, q_u_k (by decide)]
      have t_393 : (I_384 o 4).toInt = (I o 4).toInt := by rw [← e_385, q_u_k (by decide)]
      have t_394 : (I_384 o 35).toInt = (I o 35).toInt := by rw [← e_385, q_u_k (by decide)]
      have t_395 : (I_384 o 44).toInt = (I o 44).toInt := by rw [← e_385, q_u_k (by decide)]
      have t_396 : (I_384 o 45).toInt = (I o 45).toInt := by rw [← e_385, q_u_k (by decide)]
      have t_397 : (I_384 o 46).toInt = (I o 46).toInt := by rw [← e_385, q_u_k (by decide)]
      have t_398 : (I_384 o 47).toInt = (I o 47).toInt := by rw [← e_385, q_u_k (by decide)]
      have t_399 : (I_384 o 48).toInt = (I o 48).toInt := by rw [← e_385, q_u_k (by decide)]
      have t_400 : (I_384 o 49).toInt = (I o 49).toInt := by rw [← e_385, q_u_k (by decide)]
      have t_401 : (I_384 o 67).toInt = (I o 67).toInt := by rw [← e_385, q_u_k (by decide)]
      have g_402 : (0 : Int) ≤ (I_384 o 6).toInt ∧ (I_384 o 6).toInt ≤ 1600 := hR_386.at0 ra 6 (by decide)
      have g_403 : (0 : Int) ≤ (I_384 o 3).toInt ∧ (I_384 o 3).toInt ≤ 1600 := hR_386.at0 ra 3 (by decide)
      refine ⟨fun c_404 => ?_, fun c_404 => ?_⟩
      · have d_405 := iLt c_404
        have l_406 : (0 : Int32).toInt = 0 := rfl
        refine ⟨fun c_407 => ?_, fun c_407 => ?_⟩
        · have d_408 := iNe c_407
          unfold fModel_next_216
          refine y_Model_isLetter hok hR_386 (fun r_409 u_410 u_411 => ⟨r_409, I_384, L, rfl, rfl, ?_⟩)
          have b_412 : 0 ≤ r_409.toInt ∧ r_409.toInt ≤ 1 := u_410.rg
          refine ⟨fun c_413 => ?_, fun c_413 => ?_⟩
          · have d_414 := iEq c_413
            refine y_Model_isDigit hok hR_386 (fun r_415 u_416 u_417 u_418 => ⟨r_415, I_384, L, rfl, rfl, ?_⟩)
            have b_419 : 0 ≤ r_415.toInt ∧ r_415.toInt ≤ 1 := u_416.rg
            refine ⟨fun c_420 => ?_, fun c_420 => ?_⟩
            · have d_421 := iEq c_420
              refine y_Model_isSign hok hR_386 (fun r_422 u_423 => ⟨r_422, I_384, L, rfl, rfl, ?_⟩)
              have b_424 : 0 ≤ r_422.toInt ∧ r_422.toInt ≤ 1 := u_423.rg
              refine ⟨fun c_425 => ?_, fun c_425 => ?_⟩
              · have d_426 := iEq c_425
                refine fun I_427 e_428 => ?_
                have hR_429 : RI R I_427 := hR_386.up0 ra (by decide) e_428 (i_lo _) (i_hi _)
                have hf_430 : Fm (fun c => c = o) I0 I_427 := hf_387.set (by first | rfl | omega | (dsimp only; omega)) e_428
                have t_431 : (I_427 o 6).toInt = (I_384 o 6).toInt := by rw [← e_428, q_u_k (by decide)]
                have t_432 : (I_427 o 7).toInt = (I_384 o 7).toInt := by rw [← e_428, q_u_k (by decide)]
                have t_433 : (I_427 o 8).toInt = (1 : Int32).toInt := by rw [← e_428, q_u_at]
                have t_434 : (I_427 o 9).toInt = (I_384 o 9).toInt := by rw [← e_428, q_u_k (by decide)]
                have t_435 : (I_427 o 3).toInt = (I_384 o 3).toInt := by rw [← e_428, q_u_k (by decide)]
                have t_436 : (I_427 o 4).toInt = (I_384 o 4).toInt := by rw [← e_428, q_u_k (by decide)]
                have t_437 : (I_427 o 35).toInt = (I_384 o 35).toInt := by rw [← e_428, q_u_k (by decide)]
                have t_438 : (I_427 o 44).toInt = (I_384 o 44).toInt := by rw [← e_428, q_u_k (by decide)]
                have t_439 : (I_427 o 45).toInt = (I_384 o 45).toInt := by rw [← e_428, q_u_k (by decide)]
                have t_440 : (I_427 o 46).toInt = (I_384 o 46).toInt := by rw [← e_428, q_u_k (by decide)]
                have t_441 : (I_427 o 47).toInt = (I_384 o 47).toInt := by rw [← e_428, q_u_k (by decide)]
                have t_442 : (I_427 o 48).toInt = (I_384 o 48).toInt := by rw [← e_428, q_u_k (by decide)]
                have t_443 : (I_427 o 49).toInt = (I_384 o 49).toInt := by rw [← e_428, q_u_k (by decide)]
                have t_444 : (I_427 o 67).toInt = (I_384 o 67).toInt := by rw [← e_428, q_u_k (by decide)]
                exact (hp _ _ hR_429 hf_430 (by first | omega | (intro h; omega) | exact Or.inl rfl | exact Or.inr rfl) (by first | omega | (intro h; omega) | exact Or.inl rfl | exact Or.inr rfl) (by intro _; omega) (by intro _; omega) (by first | omega | (intro h; omega) | exact Or.inl rfl | exact Or.inr rfl) (by first | omega | (intro h; omega) | exact Or.inl rfl | exact Or.inr rfl) (by first | omega | (intro h; omega) | exact Or.inl rfl | exact Or.inr rfl) (by first | omega | (intro h; omega) | exact Or.inl rfl | exact Or.inr rfl) (by first | omega | (intro h; omega) | exact Or.inl rfl | exact Or.inr rfl) (by first | omega | (intro h; omega) | exact Or.inl rfl | exact Or.inr rfl) (by first | omega | (intro h; omega) | exact Or.inl rfl | exact Or.inr rfl) (by first | omega | (intro h; omega) | exact Or.inl rfl | exact Or.inr rfl) (by first | omega | (intro h; omega) | exact Or.inl rfl | exact Or.inr rfl) (by first | omega | (intro h; omega) | exact Or.inl rfl | exact Or.inr rfl))
              · have d_445 := iNe c_425
                have l_446 : (6 : Int32).toInt = 6 := rfl
                refine fun I_447 e_448 => ?_
                have hR_449 : RI R I_447 := hR_386.up0 ra (by decide) e_448 (i_lo _) (i_hi _)
                have hf_450 : Fm (fun c => c = o) I0 I_447 := hf_387.set (by first | rfl | omega | (dsimp only; omega)) e_448
                have t_451 : (I_447 o 6).toInt = (I_384 o 6).toInt := by rw [← e_448, q_u_k (by decide)]
                have t_452 : (I_447 o 7).toInt = (I_384 o 7).toInt := by rw [← e_448, q_u_k (by decide)]
                have t_453 : (I_447 o 8).toInt = (6 : Int32).toInt := by rw [← e_448, q_u_at]
                have t_454 : (I_447 o 9).toInt = (I_384 o 9).toInt := by rw [← e_448, q_u_k (by decide)]
                have t_455 : (I_447 o 3).toInt = (I_384 o 3).toInt := by rw [← e_448, q_u_k (by decide)]
                have t_456 : (I_447 o 4).toInt = (I_384 o 4).toInt := by rw [← e_448, q_u_k (by decide)]
                have t_457 : (I_447 o 35).toInt = (I_384 o 35).toInt := by rw [← e_448, q_u_k (by decide)]
                have t_458 : (I_447 o 44).toInt = (I_384 o 44).toInt := by rw [← e_448, q_u_k (by decide)]
                have t_459 : (I_447 o 45).toInt = (I_384 o 45).toInt := by rw [← e_448, q_u_k (by decide)]
                have t_460 : (I_447 o 46).toInt = (I_384 o 46).toInt := by rw [← e_448, q_u_k (by decide)]
                have t_461 : (I_447 o 47).toInt = (I_384 o 47).toInt := by rw [← e_448, q_u_k (by decide)]
                have t_462 : (I_447 o 48).toInt = (I_384 o 48).toInt := by rw [← e_448, q_u_k (by decide)]
                have t_463 : (I_447 o 49).toInt = (I_384 o 49).toInt := by rw [← e_448, q_u_k (by decide)]
                have t_464 : (I_447 o 67).toInt = (I_384 o 67).toInt := by rw [← e_448, q_u_k (by decide)]
                exact (hp _ _ hR_449 hf_450 (by first | omega | (intro h; omega) | exact Or.inl rfl | exact Or.inr rfl) (by first | omega | (intro h; omega) | exact Or.inl rfl | exact Or.inr rfl) (by intro _; omega) (by intro _; omega) (by first | omega | (intro h; omega) | exact Or.inl rfl | exact Or.inr rfl) (by first | omega | (intro h; omega) | exact Or.inl rfl | exact Or.inr rfl) (by first | omega | (intro h; omega) | exact Or.inl rfl | exact Or.inr rfl) (by first | omega | (intro h; omega) | exact Or.inl rfl | exact Or.inr rfl) (by first | omega | (intro h; omega) | exact Or.inl rfl | exact Or.inr rfl) (by first | omega | (intro h; omega) | exact Or.inl rfl | exact Or.inr rfl) (by first | omega | (intro h; omega) | exact Or.inl rfl | exact Or.inr rfl) (by first | omega | (intro h; omega) | exact Or.inl rfl | exact Or.inr rfl) (by first | omega | (intro h; omega) | exact Or.inl rfl | exact Or.inr rfl) (by first | omega | (intro h; omega) | exact Or.inl rfl | exact Or.inr rfl))
            · have d_465 := iNe c_420
              have dc := u_417 (by omega)
              refine fun I_466 e_467 => ?_
              have hR_468 : RI R I_466 := hR_386.up0 ra (by decide) e_467 (i_lo _) (i_hi _)
              have hf_469 : Fm (fun c => c = o) I0 I_466 := hf_387.set (by first | rfl | omega | (dsimp only; omega)) e_467
              have t_470 : (I_466 o 6).toInt = (I_384 o 6).toInt := by rw [← e_467, q_u_k (by decide)]
              have t_471 : (I_466 o 7).toInt = (I_384 o 7).toInt := by rw [← e_467, q_u_k (by decide)]
              have t_472 : (I_466 o 8).toInt = (I_384 o 8).toInt := by rw [← e_467, q_u_k (by decide)]
              have t_473 : (I_466 o 9).toInt = (0 : Int32).toInt := by rw [← e_467, q_u_at]
              have t_474 : (I_466 o 3).toInt = (I_384 o 3).toInt := by rw [← e_467, q_u_k (by decide)]
              have t_475 : (I_466 o 4).toInt = (I_384 o 4).toInt := by rw [← e_467, q_u_k (by decide)]
              have t_476 : (I_466 o 35).toInt = (I_384 o 35).toInt := by rw [← e_467, q_u_k (by decide)]
              have t_477 : (I_466 o 44).toInt = (I_384 o 44).toInt := by rw [← e_467, q_u_k (by decide)]
              have t_478 : (I_466 o 45).toInt = (I_384 o 45).toInt := by rw [← e_467, q_u_k (by decide)]
              have t_479 : (I_466 o 46).toInt = (I_384 o 46).toInt := by rw [← e_467, q_u_k (by decide)]
              have t_480 : (I_466 o 47).toInt = (I_384 o 47).toInt := by rw [← e_467, q_u_k (by decide)]
              have t_481 : (I_466 o 48).toInt = (I_384 o 48).toInt := by rw [← e_467, q_u_k (by decide)]
              have t_482 : (I_466 o 49).toInt = (I_384 o 49).toInt := by rw [← e_467, q_u_k (by decide)]
              have t_483 : (I_466 o 67).toInt = (I_384 o 67).toInt := by rw [← e_467, q_u_k (by decide)]
              have g_484 : (0 : Int) ≤ (I_466 o 6).toInt ∧ (I_466 o 6).toInt ≤ 1600 := hR_468.at0 ra 6 (by decide)
              refine fun I_485 e_486 => ?_
              have hR_487 : RI R I_485 := hR_468.up0 ra (by decide) e_486 (show (0 : Int) ≤ (I_466 o 6).toInt by omega) (show (I_466 o 6).toInt ≤ (1601 : Int) by omega)
              have hf_488 : Fm (fun c => c = o) I0 I_485 := hf_469.set (by first | rfl | omega | (dsimp only; omega)) e_486
              have t_489 : (I_485 o 6).toInt = (I_466 o 6).toInt := by rw [← e_486, q_u_k (by decide)]
              have t_490 : (I_485 o 7).toInt = (I_466 o 6).toInt := by rw [← e_486, q_u_at]
              have t_491 : (I_485 o 8).toInt = (I_466 o 8).toInt := by rw [← e_486, q_u_k (by decide)]
              have t_492 : (I_485 o 9).toInt = (I_466 o 9).toInt := by rw [← e_486, q_u_k (by decide)]
              have t_493 : (I_485 o 3).toInt = (I_466 o 3).toInt := by rw [← e_486, q_u_k (by decide)]
              have t_494 : (I_485 o 4).toInt = (I_466 o 4).toInt := by rw [← e_486, q_u_k (by decide)]
              have t_495 : (I_485 o 35).toInt = (I_466 o 35).toInt := by rw [← e_486, q_u_k (by decide)]
              have t_496 : (I_485 o 44).toInt = (I_466 o 44).toInt := by rw [← e_486, q_u_k (by decide)]
              have t_497 : (I_485 o 45).toInt = (I_466 o 45).toInt := by rw [← e_486, q_u_k (by decide)]
              have t_498 : (I_485 o 46).toInt = (I_466 o 46).toInt := by rw [← e_486, q_u_k (by decide)]
              have t_499 : (I_485 o 47).toInt = (I_466 o 47).toInt := by rw [← e_486, q_u_k (by decide)]
              have t_500 : (I_485 o 48).toInt = (I_466 o 48).toInt := by rw [← e_486, q_u_k (by decide)]
              have t_501 : (I_485 o 49).toInt = (I_466 o 49).toInt := by rw [← e_486, q_u_k (by decide)]
              have t_502 : (I_485 o 67).toInt = (I_466 o 67).toInt := by rw [← e_486, q_u_k (by decide)]
              exact yModel_next_363 (I0 := I0) (L0 := L0) hok hw ra hq0 hp  _ hR_487 hf_488 (by first | omega | (intro h; omega) | exact Or.inl rfl | exact Or.inr rfl) (by first | omega | (intro h; omega) | exact Or.inl rfl | exact Or.inr rfl) (by first | exact sgLo sc (by omega) (by omega) | exact sgLo (a := I o 6) rfl (by omega) (by omega)) (by first | exact sgHi sc (by omega) (by omega) | exact sgHi (a := I o 6) rfl (by omega) (by omega)) (by first | omega | (intro h; omega) | exact Or.inl rfl | exact Or.inr rfl) (by first | omega | (intro h; omega) | exact Or.inl rfl | exact Or.inr rfl) (by first | omega | (intro h; omega) | exact Or.inl rfl | exact Or.inr rfl) (by first | omega | (intro h; omega) | exact Or.inl rfl | exact Or.inr rfl) (by first | omega | (intro h; omega) | exact Or.inl rfl | exact Or.inr rfl) (by first | omega | (intro h; omega) | exact Or.inl rfl | exact Or.inr rfl) (by first | omega | (intro h; omega) | exact Or.inl rfl | exact Or.inr rfl) (by first | omega | (intro h; omega) | exact Or.inl rfl | exact Or.inr rfl) (by first | omega | (intro h; omega) | exact Or.inl rfl | exact Or.inr rfl) (by first | omega | (intro h; omega) | exact Or.inl rfl | exact Or.inr rfl) (by first | omega | (intro h; omega) | exact Or.inl rfl | exact Or.inr rfl) (Nat.lt_succ_self _)
          · have d_503 := iNe c_413
            exact yModel_next_223 (I0 := I0) (L0 := L0) hok hw ra hq0 hp  _ hR_386 hf_387 (by first | omega | (intro h; omega) | exact Or.inl rfl | exact Or.inr rfl) (by first | omega | (intro h; omega) | exact Or.inl rfl | exact Or.inr rfl) (by first | omega | (intro h; omega) | exact Or.inl rfl | exact Or.inr rfl) (by first | omega | (intro h; omega) | exact Or.inl rfl | exact Or.inr rfl) (by first | omega | (intro h; omega) | exact Or.inl rfl | exact Or.inr rfl) (by first | omega | (intro h; omega) | exact Or.inl rfl | exact Or.inr rfl) (by first | omega | (intro h; omega) | exact Or.inl rfl | exact Or.inr rfl) (by first | omega | (intro h; omega) | exact Or.inl rfl | exact Or.inr rfl) (by first | omega | (intro h; omega) | exact Or.inl rfl | exact Or.inr rfl) (by first | omega | (intro h; omega) | exact Or.inl rfl | exact Or.inr rfl) (by first | omega | (intro h; omega) | exact Or.inl rfl | exact Or.inr rfl) (by first | omega | (intro h; omega) | exact Or.inl rfl | exact Or.inr rfl) (by first | omega | (intro h; omega) | exact Or.inl rfl | exact Or.inr rfl) (Nat.lt_succ_self _)
        · have d_504 := iEq c_407
          have l_505 : (112 : Int32).toInt = 112 := rfl
          refine ⟨fun c_506 => ?_, fun c_506 => ?_⟩
          · have d_507 := iNe c_506
            unfold fModel_next_216
            refine y_Model_isLetter hok hR_386 (fun r_508 u_509 u_510 => ⟨r_508, I_384, L, rfl, rfl, ?_⟩)
            have b_511 : 0 ≤ r_508.toInt ∧ r_508.toInt ≤ 1 := u_509.rg
            refine ⟨fun c_512 => ?_, fun c_512 => ?_⟩
            · have d_513 := iEq c_512
              refine y_Model_isDigit hok hR_386 (fun r_514 u_515 u_516 u_517 => ⟨r_514, I_384, L, rfl, rfl, ?_⟩)
              have b_518 : 0 ≤ r_514.toInt ∧ r_514.toInt ≤ 1 := u_515.rg
              refine ⟨fun c_519 => ?_, fun c_519 => ?_⟩
              · have d_520 := iEq c_519
                refine y_Model_isSign hok hR_386 (fun r_521 u_522 => ⟨r_521, I_384, L, rfl, rfl, ?_⟩)
                have b_523 : 0 ≤ r_521.toInt ∧ r_521.toInt ≤ 1 := u_522.rg
                refine ⟨fun c_524 => ?_, fun c_524 => ?_⟩
                · have d_525 := iEq c_524
                  refine fun I_526 e_527 => ?_
                  have hR_528 : RI R I_526 := hR_386.up0 ra (by decide) e_527 (i_lo _) (i_hi _)
                  have hf_529 : Fm (fun c => c = o) I0 I_526 := hf_387.set (by first | rfl | omega | (dsimp only; omega)) e_527
                  have t_530 : (I_526 o 6).toInt = (I_384 o 6).toInt := by rw [← e_527, q_u_k (by decide)]
                  have t_531 : (I_526 o 7).toInt = (I_384 o 7).toInt := by rw [← e_527, q_u_k (by decide)]
                  have t_532 : (I_526 o 8).toInt = (1 : Int32).toInt := by rw [← e_527, q_u_at]
                  have t_533 : (I_526 o 9).toInt = (I_384 o 9).toInt := by rw [← e_527, q_u_k (by decide)]
                  have t_534 : (I_526 o 3).toInt = (I_384 o 3).toInt := by rw [← e_527, q_u_k (by decide)]
                  have t_535 : (I_526 o 4).toInt = (I_384 o 4).toInt := by rw [← e_527, q_u_k (by decide)]
                  have t_536 : (I_526 o 35).toInt = (I_384 o 35).toInt := by rw [← e_527, q_u_k (by decide)]
                  have t_537 : (I_526 o 44).toInt = (I_384 o 44).toInt := by rw [← e_527, q_u_k (by decide)]
                  have t_538 : (I_526 o 45).toInt = (I_384 o 45).toInt := by rw [← e_527, q_u_k (by decide)]
                  have t_539 : (I_526 o 46).toInt = (I_384 o 46).toInt := by rw [← e_527, q_u_k (by decide)]
                  have t_540 : (I_526 o 47).toInt = (I_384 o 47).toInt := by rw [← e_527, q_u_k (by decide)]
                  have t_541 : (I_526 o 48).toInt = (I_384 o 48).toInt := by rw [← e_527, q_u_k (by decide)]
                  have t_542 : (I_526 o 49).toInt = (I_384 o 49).toInt := by rw [← e_527, q_u_k (by decide)]
                  have t_543 : (I_526 o 67).toInt = (I_384 o 67).toInt := by rw [← e_527, q_u_k (by decide)]
                  exact (hp _ _ hR_528 hf_529 (by first | omega | (intro h; omega) | exact Or.inl rfl | exact Or.inr rfl) (by first | omega | (intro h; omega) | exact Or.inl rfl | exact Or.inr rfl) (by intro _; omega) (by intro _; omega) (by first | omega | (intro h; omega) | exact Or.inl rfl | exact Or.inr rfl) (by first | omega | (intro h; omega) | exact Or.inl rfl | exact Or.inr rfl) (by first | omega | (intro h; omega) | exact Or.inl rfl | exact Or.inr rfl) (by first | omega | (intro h; omega) | exact Or.inl rfl | exact Or.inr rfl) (by first | omega | (intro h; omega) | exact Or.inl rfl | exact Or.inr rfl) (by first | omega | (intro h; omega) | exact Or.inl rfl | exact Or.inr rfl) (by first | omega | (intro h; omega) | exact Or.inl rfl | exact Or.inr rfl) (by first | omega | (intro h; omega) | exact Or.inl rfl | exact Or.inr rfl) (by first | omega | (intro h; omega) | exact Or.inl rfl | exact Or.inr rfl) (by first | omega | (intro h; omega) | exact Or.inl rfl | exact Or.inr rfl))
                · have d_544 := iNe c_524
                  have l_545 : (6 : Int32).toInt = 6 := rfl
                  refine fun I_546 e_547 => ?_
                  have hR_548 : RI R I_546 := hR_386.up0 ra (by decide) e_547 (i_lo _) (i_hi _)
                  have hf_549 : Fm (fun c => c = o) I0 I_546 := hf_387.set (by first | rfl | omega | (dsimp only; omega)) e_547
                  have t_550 : (I_546 o 6).toInt = (I_384 o 6).toInt := by rw [← e_547, q_u_k (by decide)]
                  have t_551 : (I_546 o 7).toInt = (I_384 o 7).toInt := by rw [← e_547, q_u_k (by decide)]
                  have t_552 : (I_546 o 8).toInt = (6 : Int32).toInt := by rw [← e_547, q_u_at]
                  have t_553 : (I_546 o 9).toInt = (I_384 o 9).toInt := by rw [← e_547, q_u_k (by decide)]
                  have t_554 : (I_546 o 3).toInt = (I_384 o 3).toInt := by rw [← e_547, q_u_k (by decide)]
                  have t_555 : (I_546 o 4).toInt = (I_384 o 4).toInt := by rw [← e_547, q_u_k (by decide)]
                  have t_556 : (I_546 o 35).toInt = (I_384 o 35).toInt := by rw [← e_547, q_u_k (by decide)]
                  have t_557 : (I_546 o 44).toInt = (I_384 o 44).toInt := by rw [← e_547, q_u_k (by decide)]
                  have t_558 : (I_546 o 45).toInt = (I_384 o 45).toInt := by rw [← e_547, q_u_k (by decide)]
                  have t_559 : (I_546 o 46).toInt = (I_384 o 46).toInt := by rw [← e_547, q_u_k (by decide)]
                  have t_560 : (I_546 o 47).toInt = (I_384 o 47).toInt := by rw [← e_547, q_u_k (by decide)]
                  have t_561 : (I_546 o 48).toInt = (I_384 o 48).toInt := by rw [← e_547, q_u_k (by decide)]
                  have t_562 : (I_546 o 49).toInt = (I_384 o 49).toInt := by rw [← e_547, q_u_k (by decide)]
                  have t_563 : (I_546 o 67).toInt = (I_384 o 67).toInt := by rw [← e_547, q_u_k (by decide)]
                  exact (hp _ _ hR_548 hf_549 (by first | omega | (intro h; omega) | exact Or.inl rfl | exact Or.inr rfl) (by first | omega | (intro h; omega) | exact Or.inl rfl | exact Or.inr rfl) (by intro _; omega) (by intro _; omega) (by first | omega | (intro h; omega) | exact Or.inl rfl | exact Or.inr rfl) (by first | omega | (intro h; omega) | exact Or.inl rfl | exact Or.inr rfl) (by first | omega | (intro h; omega) | exact Or.inl rfl | exact Or.inr rfl) (by first | omega | (intro h; omega) | exact Or.inl rfl | exact Or.inr rfl) (by first | omega | (intro h; omega) | exact Or.inl rfl | exact Or.inr rfl) (by first | omega | (intro h; omega) | exact Or.inl rfl | exact Or.inr rfl) (by first | omega | (intro h; omega) | exact Or.inl rfl | exact Or.inr rfl) (by first | omega | (intro h; omega) | exact Or.inl rfl | exact Or.inr rfl) (by first | omega | (intro h; omega) | exact Or.inl rfl | exact Or.inr rfl) (by first | omega | (intro h; omega) | exact Or.inl rfl | exact Or.inr rfl))
              · have d_564 := iNe c_519
                have dc := u_516 (by omega)
                refine fun I_565 e_566 => ?_
                have hR_567 : RI R I_565 := hR_386.up0 ra (by decide) e_566 (i_lo _) (i_hi _)
                have hf_568 : Fm (fun c => c = o) I0 I_565 := hf_387.set (by first | rfl | omega | (dsimp only; omega)) e_566
                have t_569 : (I_565 o 6).toInt = (I_384 o 6).toInt := by rw [← e_566, q_u_k (by decide)]
                have t_570 : (I_565 o 7).toInt = (I_384 o 7).toInt := by rw [← e_566, q_u_k (by decide)]
                have t_571 : (I_565 o 8).toInt = (I_384 o 8).toInt := by rw [← e_566, q_u_k (by decide)]
                have t_572 : (I_565 o 9).toInt = (0 : Int32).toInt := by rw [← e_566, q_u_at]
                have t_573 : (I_565 o 3).toInt = (I_384 o 3).toInt := by rw [← e_566, q_u_k (by decide)]
                have t_574 : (I_565 o 4).toInt = (I_384 o 4).toInt := by rw [← e_566, q_u_k (by decide)]
                have t_575 : (I_565 o 35).toInt = (I_384 o 35).toInt := by rw [← e_566, q_u_k (by decide)]
                have t_576 : (I_565 o 44).toInt = (I_384 o 44).toInt := by rw [← e_566, q_u_k (by decide)]
                have t_577 : (I_565 o 45).toInt = (I_384 o 45).toInt := by rw [← e_566, q_u_k (by decide)]
                have t_578 : (I_565 o 46).toInt = (I_384 o 46).toInt := by rw [← e_566, q_u_k (by decide)]
                have t_579 : (I_565 o 47).toInt = (I_384 o 47).toInt := by rw [← e_566, q_u_k (by decide)]
                have t_580 : (I_565 o 48).toInt = (I_384 o 48).toInt := by rw [← e_566, q_u_k (by decide)]
                have t_581 : (I_565 o 49).toInt = (I_384 o 49).toInt := by rw [← e_566, q_u_k (by decide)]
                have t_582 : (I_565 o 67).toInt = (I_384 o 67).toInt := by rw [← e_566, q_u_k (by decide)]
                have g_583 : (0 : Int) ≤ (I_565 o 6).toInt ∧ (I_565 o 6).toInt ≤ 1600 := hR_567.at0 ra 6 (by decide)
                refine fun I_584 e_585 => ?_
                have hR_586 : RI R I_584 := hR_567.up0 ra (by decide) e_585 (show (0 : Int) ≤ (I_565 o 6).toInt by omega) (show (I_565 o 6).toInt ≤ (1601 : Int) by omega)
                have hf_587 : Fm (fun c => c = o) I0 I_584 := hf_568.set (by first | rfl | omega | (dsimp only; omega)) e_585
                have t_588 : (I_584 o 6).toInt = (I_565 o 6).toInt := by rw [← e_585, q_u_k (by decide)]
                have t_589 : (I_584 o 7).toInt = (I_565 o 6).toInt := by rw [← e_585, q_u_at]
                have t_590 : (I_584 o 8).toInt = (I_565 o 8).toInt := by rw [← e_585, q_u_k (by decide)]
                have t_591 : (I_584 o 9).toInt = (I_565 o 9).toInt := by rw [← e_585, q_u_k (by decide)]
                have t_592 : (I_584 o 3).toInt = (I_565 o 3).toInt := by rw [← e_585, q_u_k (by decide)]
                have t_593 : (I_584 o 4).toInt = (I_565 o 4).toInt := by rw [← e_585, q_u_k (by decide)]
                have t_594 : (I_584 o 35).toInt = (I_565 o 35).toInt := by rw [← e_585, q_u_k (by decide)]
                have t_595 : (I_584 o 44).toInt = (I_565 o 44).toInt := by rw [← e_585, q_u_k (by decide)]
                have t_596 : (I_584 o 45).toInt = (I_565 o 45).toInt := by rw [← e_585, q_u_k (by decide)]
                have t_597 : (I_584 o 46).toInt = (I_565 o 46).toInt := by rw [← e_585, q_u_k (by decide)]
                have t_598 : (I_584 o 47).toInt = (I_565 o 47).toInt := by rw [← e_585, q_u_k (by decide)]
                have t_599 : (I_584 o 48).toInt = (I_565 o 48).toInt := by rw [← e_585, q_u_k (by decide)]
                have t_600 : (I_584 o 49).toInt = (I_565 o 49).toInt := by rw [← e_585, q_u_k (by decide)]
                have t_601 : (I_584 o 67).toInt = (I_565 o 67).toInt := by rw [← e_585, q_u_k (by decide)]
                exact yModel_next_363 (I0 := I0) (L0 := L0) hok hw ra hq0 hp  _ hR_586 hf_587 (by first | omega | (intro h; omega) | exact Or.inl rfl | exact Or.inr rfl) (by first | omega | (intro h; omega) | exact Or.inl rfl | exact Or.inr rfl) (by first | exact sgLo sc (by omega) (by omega) | exact sgLo (a := I o 6) rfl (by omega) (by omega)) (by first | exact sgHi sc (by omega) (by omega) | exact sgHi (a := I o 6) rfl (by omega) (by omega)) (by first | omega | (intro h; omega) | exact Or.inl rfl | exact Or.inr rfl) (by first | omega | (intro h; omega) | exact Or.inl rfl | exact Or.inr rfl) (by first | omega | (intro h; omega) | exact Or.inl rfl | exact Or.inr rfl) (by first | omega | (intro h; omega) | exact Or.inl rfl | exact Or.inr rfl) (by first | omega | (intro h; omega) | exact Or.inl rfl | exact Or.inr rfl) (by first | omega | (intro h; omega) | exact Or.inl rfl | exact Or.inr rfl) (by first | omega | (intro h; omega) | exact Or.inl rfl | exact Or.inr rfl) (by first | omega | (intro h; omega) | exact Or.inl rfl | exact Or.inr rfl) (by first | omega | (intro h; omega) | exact Or.inl rfl | exact Or.inr rfl) (by first | omega | (intro h; omega) | exact Or.inl rfl | exact Or.inr rfl) (by first | omega | (intro h; omega) | exact Or.inl rfl | exact Or.inr rfl) (Nat.lt_succ_self _)
            · have d_602 := iNe c_512
              exact yModel_next_223 (I0 := I0) (L0 := L0) hok hw ra hq0 hp  _ hR_386 hf_387 (by first | omega | (intro h; omega) | exact Or.inl rfl | exact Or.inr rfl) (by first | omega | (intro h; omega) | exact Or.inl rfl | exact Or.inr rfl) (by first | omega | (intro h; omega) | exact Or.inl rfl | exact Or.inr rfl) (by first | omega | (intro h; omega) | exact Or.inl rfl | exact Or.inr rfl) (by first | omega | (intro h; omega) | exact Or.inl rfl | exact Or.inr rfl) (by first | omega | (intro h; omega) | exact Or.inl rfl | exact Or.inr rfl) (by first | omega | (intro h; omega) | exact Or.inl rfl | exact Or.inr rfl) (by first | omega | (intro h; omega) | exact Or.inl rfl | exact Or.inr rfl) (by first | omega | (intro h; omega) | exact Or.inl rfl | exact Or.inr rfl) (by first | omega | (intro h; omega) | exact Or.inl rfl | exact Or.inr rfl) (by first | omega | (intro h; omega) | exact Or.inl rfl | exact Or.inr rfl) (by first | omega | (intro h; omega) | exact Or.inl rfl | exact Or.inr rfl) (by first | omega | (intro h; omega) | exact Or.inl rfl | exact Or.inr rfl) (Nat.lt_succ_self _)
          · have d_603 := iEq c_506
            have g_604 : (0 : Int) ≤ (I_384 o 6).toInt ∧ (I_384 o 6).toInt ≤ 1600 := hR_386.at0 ra 6 (by decide)
            have a_605 : ((I_384 o 6) + 1).toInt = (I_384 o 6).toInt + (1 : Int32).toInt := tAdd (by omega) (by omega)
            refine y_Model_pointAt hok hw ra (by first | omega | (intro h; omega) | exact Or.inl rfl | exact Or.inr rfl) hR_386 (fun r_606 u_607 u_608 => ⟨r_606, I_384, L, rfl, rfl, ?_⟩)
            refine ⟨fun c_609 => ?_, fun c_609 => ?_⟩
            · have d_610 := iLe c_609
              unfold fModel_next_216
              refine y_Model_isLetter hok hR_386 (fun r_611 u_612 u_613 => ⟨r_611, I_384, L, rfl, rfl, ?_⟩)
              have b_614 : 0 ≤ r_611.toInt ∧ r_611.toInt ≤ 1 := u_612.rg
              refine ⟨fun c_615 => ?_, fun c_615 => ?_⟩
              · have d_616 := iEq c_615
                refine y_Model_isDigit hok hR_386 (fun r_617 u_618 u_619 u_620 => ⟨r_617, I_384, L, rfl, rfl, ?_⟩)
                have b_621 : 0 ≤ r_617.toInt ∧ r_617.toInt ≤ 1 := u_618.rg
                refine ⟨fun c_622 => ?_, fun c_622 => ?_⟩
                · have d_623 := iEq c_622
                  refine y_Model_isSign hok hR_386 (fun r_624 u_625 => ⟨r_624, I_384, L, rfl, rfl, ?_⟩)
                  have b_626 : 0 ≤ r_624.toInt ∧ r_624.toInt ≤ 1 := u_625.rg
                  refine ⟨fun c_627 => ?_, fun c_627 => ?_⟩
                  · have d_628 := iEq c_627
                    refine fun I_629 e_630 => ?_
                    have hR_631 : RI R I_629 := hR_386.up0 ra (by decide) e_630 (i_lo _) (i_hi _)
                    have hf_632 : Fm (fun c => c = o) I0 I_629 := hf_387.set (by first | rfl | omega | (dsimp only; omega)) e_630
                    have t_633 : (I_629 o 6).toInt = (I_384 o 6).toInt := by rw [← e_630, q_u_k (by decide)]
                    have t_634 : (I_629 o 7).toInt = (I_384 o 7).toInt := by rw [← e_630, q_u_k (by decide)]
                    have t_635 : (I_629 o 8).toInt = (1 : Int32).toInt := by rw [← e_630, q_u_at]
                    have t_636 : (I_629 o 9).toInt = (I_384 o 9).toInt := by rw [← e_630, q_u_k (by decide)]
                    have t_637 : (I_629 o 3).toInt = (I_384 o 3).toInt := by rw [← e_630, q_u_k (by decide)]
                    have t_638 : (I_629 o 4).toInt = (I_384 o 4).toInt := by rw [← e_630, q_u_k (by decide)]
                    have t_639 : (I_629 o 35).toInt = (I_384 o 35).toInt := by rw [← e_630, q_u_k (by decide)]
                    have t_640 : (I_629 o 44).toInt = (I_384 o 44).toInt := by rw [← e_630, q_u_k (by decide)]
                    have t_641 : (I_629 o 45).toInt = (I_384 o 45).toInt := by rw [← e_630, q_u_k (by decide)]
                    have t_642 : (I_629 o 46).toInt = (I_384 o 46).toInt := by rw [← e_630, q_u_k (by decide)]
                    have t_643 : (I_629 o 47).toInt = (I_384 o 47).toInt := by rw [← e_630, q_u_k (by decide)]
                    have t_644 : (I_629 o 48).toInt = (I_384 o 48).toInt := by rw [← e_630, q_u_k (by decide)]
                    have t_645 : (I_629 o 49).toInt = (I_384 o 49).toInt := by rw [← e_630, q_u_k (by decide)]
                    have t_646 : (I_629 o 67).toInt = (I_384 o 67).toInt := by rw [← e_630, q_u_k (by decide)]
                    exact (hp _ _ hR_631 hf_632 (by first | omega | (intro h; omega) | exact Or.inl rfl | exact Or.inr rfl) (by first | omega | (intro h; omega) | exact Or.inl rfl | exact Or.inr rfl) (by intro _; omega) (by intro _; omega) (by first | omega | (intro h; omega) | exact Or.inl rfl | exact Or.inr rfl) (by first | omega | (intro h; omega) | exact Or.inl rfl | exact Or.inr rfl) (by first | omega | (intro h; omega) | exact Or.inl rfl | exact Or.inr rfl) (by first | omega | (intro h; omega) | exact Or.inl rfl | exact Or.inr rfl) (by first | omega | (intro h; omega) | exact Or.inl rfl | exact Or.inr rfl) (by first | omega | (intro h; omega) | exact Or.inl rfl | exact Or.inr rfl) (by first | omega | (intro h; omega) | exact Or.inl rfl | exact Or.inr rfl) (by first | omega | (intro h; omega) | exact Or.inl rfl | exact Or.inr rfl) (by first | omega | (intro h; omega) | exact Or.inl rfl | exact Or.inr rfl) (by first | omega | (intro h; omega) | exact Or.inl rfl | exact Or.inr rfl))
                  · have d_647 := iNe c_627
                    have l_648 : (6 : Int32).toInt = 6 := rfl
                    refine fun I_649 e_650 => ?_
                    have hR_651 : RI R I_649 := hR_386.up0 ra (by decide) e_650 (i_lo _) (i_hi _)
                    have hf_652 : Fm (fun c => c = o) I0 I_649 := hf_387.set (by first | rfl | omega | (dsimp only; omega)) e_650
                    have t_653 : (I_649 o 6).toInt = (I_384 o 6).toInt := by rw [← e_650, q_u_k (by decide)]
                    have t_654 : (I_649 o 7).toInt = (I_384 o 7).toInt := by rw [← e_650, q_u_k (by decide)]
                    have t_655 : (I_649 o 8).toInt = (6 : Int32).toInt := by rw [← e_650, q_u_at]
                    have t_656 : (I_649 o 9).toInt = (I_384 o 9).toInt := by rw [← e_650, q_u_k (by decide)]
                    have t_657 : (I_649 o 3).toInt = (I_384 o 3).toInt := by rw [← e_650, q_u_k (by decide)]
                    have t_658 : (I_649 o 4).toInt = (I_384 o 4).toInt := by rw [← e_650, q_u_k (by decide)]
                    have t_659 : (I_649 o 35).toInt = (I_384 o 35).toInt := by rw [← e_650, q_u_k (by decide)]
                    have t_660 : (I_649 o 44).toInt = (I_384 o 44).toInt := by rw [← e_650, q_u_k (by decide)]
                    have t_661 : (I_649 o 45).toInt = (I_384 o 45).toInt := by rw [← e_650, q_u_k (by decide)]
                    have t_662 : (I_649 o 46).toInt = (I_384 o 46).toInt := by rw [← e_650, q_u_k (by decide)]
                    have t_663 : (I_649 o 47).toInt = (I_384 o 47).toInt := by rw [← e_650, q_u_k (by decide)]
                    have t_664 : (I_649 o 48).toInt = (I_384 o 48).toInt := by rw [← e_650, q_u_k (by decide)]
                    have t_665 : (I_649 o 49).toInt = (I_384 o 49).toInt := by rw [← e_650, q_u_k (by decide)]
                    have t_666 : (I_649 o 67).toInt = (I_384 o 67).toInt := by rw [← e_650, q_u_k (by decide)]
                    exact (hp _ _ hR_651 hf_652 (by first | omega | (intro h; omega) | exact Or.inl rfl | exact Or.inr rfl) (by first | omega | (intro h; omega) | exact Or.inl rfl | exact Or.inr rfl) (by intro _; omega) (by intro _; omega) (by first | omega | (intro h; omega) | exact Or.inl rfl | exact Or.inr rfl) (by first | omega | (intro h; omega) | exact Or.inl rfl | exact Or.inr rfl) (by first | omega | (intro h; omega) | exact Or.inl rfl | exact Or.inr rfl) (by first | omega | (intro h; omega) | exact Or.inl rfl | exact Or.inr rfl) (by first | omega | (intro h; omega) | exact Or.inl rfl | exact Or.inr rfl) (by first | omega | (intro h; omega) | exact Or.inl rfl | exact Or.inr rfl) (by first | omega | (intro h; omega) | exact Or.inl rfl | exact Or.inr rfl) (by first | omega | (intro h; omega) | exact Or.inl rfl | exact Or.inr rfl) (by first | omega | (intro h; omega) | exact Or.inl rfl | exact Or.inr rfl) (by first | omega | (intro h; omega) | exact Or.inl rfl | exact Or.inr rfl))
                · have d_667 := iNe c_622
                  have dc := u_619 (by omega)
                  refine fun I_668 e_669 => ?_
                  have hR_670 : RI R I_668 := hR_386.up0 ra (by decide) e_669 (i_lo _) (i_hi _)
                  have hf_671 : Fm (fun c => c = o) I0 I_668 := hf_387.set (by first | rfl | omega | (dsimp only; omega)) e_669
                  have t_672 : (I_668 o 6).toInt = (I_384 o 6).toInt := by rw [← e_669, q_u_k (by decide)]
                  have t_673 : (I_668 o 7).toInt = (I_384 o 7).toInt := by rw [← e_669, q_u_k (by decide)]
                  have t_674 : (I_668 o 8).toInt = (I_384 o 8).toInt := by rw [← e_669, q_u_k (by decide)]
                  have t_675 : (I_668 o 9).toInt = (0 : Int32).toInt := by rw [← e_669, q_u_at]
                  have t_676 : (I_668 o 3).toInt = (I_384 o 3).toInt := by rw [← e_669, q_u_k (by decide)]
                  have t_677 : (I_668 o 4).toInt = (I_384 o 4).toInt := by rw [← e_669, q_u_k (by decide)]
                  have t_678 : (I_668 o 35).toInt = (I_384 o 35).toInt := by rw [← e_669, q_u_k (by decide)]
                  have t_679 : (I_668 o 44).toInt = (I_384 o 44).toInt := by rw [← e_669, q_u_k (by decide)]
                  have t_680 : (I_668 o 45).toInt = (I_384 o 45).toInt := by rw [← e_669, q_u_k (by decide)]
                  have t_681 : (I_668 o 46).toInt = (I_384 o 46).toInt := by rw [← e_669, q_u_k (by decide)]
                  have t_682 : (I_668 o 47).toInt = (I_384 o 47).toInt := by rw [← e_669, q_u_k (by decide)]
                  have t_683 : (I_668 o 48).toInt = (I_384 o 48).toInt := by rw [← e_669, q_u_k (by decide)]
                  have t_684 : (I_668 o 49).toInt = (I_384 o 49).toInt := by rw [← e_669, q_u_k (by decide)]
                  have t_685 : (I_668 o 67).toInt = (I_384 o 67).toInt := by rw [← e_669, q_u_k (by decide)]
                  have g_686 : (0 : Int) ≤ (I_668 o 6).toInt ∧ (I_668 o 6).toInt ≤ 1600 := hR_670.at0 ra 6 (by decide)
                  refine fun I_687 e_688 => ?_
                  have hR_689 : RI R I_687 := hR_670.up0 ra (by decide) e_688 (show (0 : Int) ≤ (I_668 o 6).toInt by omega) (show (I_668 o 6).toInt ≤ (1601 : Int) by omega)
                  have hf_690 : Fm (fun c => c = o) I0 I_687 := hf_671.set (by first | rfl | omega | (dsimp only; omega)) e_688
                  have t_691 : (I_687 o 6).toInt = (I_668 o 6).toInt := by rw [← e_688, q_u_k (by decide)]
                  have t_692 : (I_687 o 7).toInt = (I_668 o 6).toInt := by rw [← e_688, q_u_at]
                  have t_693 : (I_687 o 8).toInt = (I_668 o 8).toInt := by rw [← e_688, q_u_k (by decide)]
                  have t_694 : (I_687 o 9).toInt = (I_668 o 9).toInt := by rw [← e_688, q_u_k (by decide)]
                  have t_695 : (I_687 o 3).toInt = (I_668 o 3).toInt := by rw [← e_688, q_u_k (by decide)]
                  have t_696 : (I_687 o 4).toInt = (I_668 o 4).toInt := by rw [← e_688, q_u_k (by decide)]
                  have t_697 : (I_687 o 35).toInt = (I_668 o 35).toInt := by rw [← e_688, q_u_k (by decide)]
                  have t_698 : (I_687 o 44).toInt = (I_668 o 44).toInt := by rw [← e_688, q_u_k (by decide)]
                  have t_699 : (I_687 o 45).toInt = (I_668 o 45).toInt := by rw [← e_688, q_u_k (by decide)]
                  have t_700 : (I_687 o 46).toInt = (I_668 o 46).toInt := by rw [← e_688, q_u_k (by decide)]
                  have t_701 : (I_687 o 47).toInt = (I_668 o 47).toInt := by rw [← e_688, q_u_k (by decide)]
                  have t_702 : (I_687 o 48).toInt = (I_668 o 48).toInt := by rw [← e_688, q_u_k (by decide)]
                  have t_703 : (I_687 o 49).toInt = (I_668 o 49).toInt := by rw [← e_688, q_u_k (by decide)]
                  have t_704 : (I_687 o 67).toInt = (I_668 o 67).toInt := by rw [← e_688, q_u_k (by decide)]
                  exact yModel_next_363 (I0 := I0) (L0 := L0) hok hw ra hq0 hp  _ hR_689 hf_690 (by first | omega | (intro h; omega) | exact Or.inl rfl | exact Or.inr rfl) (by first | omega | (intro h; omega) | exact Or.inl rfl | exact Or.inr rfl) (by first | exact sgLo sc (by omega) (by omega) | exact sgLo (a := I o 6) rfl (by omega) (by omega)) (by first | exact sgHi sc (by omega) (by omega) | exact sgHi (a := I o 6) rfl (by omega) (by omega)) (by first | omega | (intro h; omega) | exact Or.inl rfl | exact Or.inr rfl) (by first | omega | (intro h; omega) | exact Or.inl rfl | exact Or.inr rfl) (by first | omega | (intro h; omega) | exact Or.inl rfl | exact Or.inr rfl) (by first | omega | (intro h; omega) | exact Or.inl rfl | exact Or.inr rfl) (by first | omega | (intro h; omega) | exact Or.inl rfl | exact Or.inr rfl) (by first | omega | (intro h; omega) | exact Or.inl rfl | exact Or.inr rfl) (by first | omega | (intro h; omega) | exact Or.inl rfl | exact Or.inr rfl) (by first | omega | (intro h; omega) | exact Or.inl rfl | exact Or.inr rfl) (by first | omega | (intro h; omega) | exact Or.inl rfl | exact Or.inr rfl) (by first | omega | (intro h; omega) | exact Or.inl rfl | exact Or.inr rfl) (by first | omega | (intro h; omega) | exact Or.inl rfl | exact Or.inr rfl) (Nat.lt_succ_self _)
              · have d_705 := iNe c_615
                exact yModel_next_223 (I0 := I0) (L0 := L0) hok hw ra hq0 hp  _ hR_386 hf_387 (by first | omega | (intro h; omega) | exact Or.inl rfl | exact Or.inr rfl) (by first | omega | (intro h; omega) | exact Or.inl rfl | exact Or.inr rfl) (by first | omega | (intro h; omega) | exact Or.inl rfl | exact Or.inr rfl) (by first | omega | (intro h; omega) | exact Or.inl rfl | exact Or.inr rfl) (by first | omega | (intro h; omega) | exact Or.inl rfl | exact Or.inr rfl) (by first | omega | (intro h; omega) | exact Or.inl rfl | exact Or.inr rfl) (by first | omega | (intro h; omega) | exact Or.inl rfl | exact Or.inr rfl) (by first | omega | (intro h; omega) | exact Or.inl rfl | exact Or.inr rfl) (by first | omega | (intro h; omega) | exact Or.inl rfl | exact Or.inr rfl) (by first | omega | (intro h; omega) | exact Or.inl rfl | exact Or.inr rfl) (by first | omega | (intro h; omega) | exact Or.inl rfl | exact Or.inr rfl) (by first | omega | (intro h; omega) | exact Or.inl rfl | exact Or.inr rfl) (by first | omega | (intro h; omega) | exact Or.inl rfl | exact Or.inr rfl) (Nat.lt_succ_self _)
            · have d_706 := iNle c_609
              have pr := u_608
              rw [hf_387 (o + 2) (by first | omega | (dsimp only; omega)), show I_384 o 3 = I0 o 3 from Int32.toInt_inj.mp (by omega), show I_384 o 6 = a1 from Int32.toInt_inj.mp (by omega)] at pr
              have dk := pr.dig (by omega) (by omega)
              have kl := sg_lt dk.1
              have o1 : (1 : Int32).toInt = 1 := rfl
              have ka : (a1 + 1).toInt = a1.toInt + (1 : Int32).toInt := tAdd (by omega) (by omega)
              have g_707 : (0 : Int) ≤ (I_384 o 6).toInt ∧ (I_384 o 6).toInt ≤ 1600 := hR_386.at0 ra 6 (by decide)
              have a_708 : ((I_384 o 6) + 1).toInt = (I_384 o 6).toInt + (1 : Int32).toInt := tAdd (by omega) (by omega)
              refine y_Model_pointAt hok hw ra (by first | omega | (intro h; omega) | exact Or.inl rfl | exact Or.inr rfl) hR_386 (fun r_709 u_710 u_711 => ⟨r_709, I_384, L, rfl, rfl, ?_⟩)
              have pr2 := u_711
              rw [hf_387 (o + 2) (by first | omega | (dsimp only; omega)), show I_384 o 3 = I0 o 3 from Int32.toInt_inj.mp (by omega), show I_384 o 6 = a1 from Int32.toInt_inj.mp (by omega)] at pr2
              have g_712 : (0 : Int) ≤ (I_384 o 6).toInt ∧ (I_384 o 6).toInt ≤ 1600 := hR_386.at0 ra 6 (by decide)
              have a_713 : ((I_384 o 6) + 1).toInt = (I_384 o 6).toInt + (1 : Int32).toInt := tAdd (by omega) (by omega)
              refine y_Model_sign hok hw ra (by first | omega | (intro h; omega) | exact Or.inl rfl | exact Or.inr rfl) hR_386 (fun r_714 u_715 u_716 => ⟨r_714, I_384, L, rfl, rfl, ?_⟩)
              have s1 := u_716
              rw [hf_387 (o + 2) (by first | omega | (dsimp only; omega)), show I_384 o 3 = I0 o 3 from Int32.toInt_inj.mp (by omega), show I_384 o 6 = a1 from Int32.toInt_inj.mp (by omega)] at s1
              have s1 := iEq s1
              have e48 : (48 : Int32).toInt = 48 := rfl
              have sb : (r_714 - 48).toInt = (r_714).toInt - (48 : Int32).toInt := tSub (by omega) (by omega)
              refine fun I_717 e_718 => ?_
              have hR_719 : RI R I_717 := hR_386.up0 ra (by decide) e_718 (i_lo _) (i_hi _)
              have hf_720 : Fm (fun c => c = o) I0 I_717 := hf_387.set (by first | rfl | omega | (dsimp only; omega)) e_718
              have t_721 : (I_717 o 6).toInt = (I_384 o 6).toInt := by rw [← e_718, q_u_k (by decide)]
              have t_722 : (I_717 o 7).toInt = (I_384 o 7).toInt := by rw [← e_718, q_u_k (by decide)]
              have t_723 : (I_717 o 8).toInt = (I_384 o 8).toInt := by rw [← e_718, q_u_k (by decide)]
              have t_724 : (I_717 o 9).toInt = (r_714 - 48).toInt := by rw [← e_718, q_u_at]
              have t_725 : (I_717 o 3).toInt = (I_384 o 3).toInt := by rw [← e_718, q_u_k (by decide)]
              have t_726 : (I_717 o 4).toInt = (I_384 o 4).toInt := by rw [← e_718, q_u_k (by decide)]
              have t_727 : (I_717 o 35).toInt = (I_384 o 35).toInt := by rw [← e_718, q_u_k (by decide)]
              have t_728 : (I_717 o 44).toInt = (I_384 o 44).toInt := by rw [← e_718, q_u_k (by decide)]
              have t_729 : (I_717 o 45).toInt = (I_384 o 45).toInt := by rw [← e_718, q_u_k (by decide)]
              have t_730 : (I_717 o 46).toInt = (I_384 o 46).toInt := by rw [← e_718, q_u_k (by decide)]
              have t_731 : (I_717 o 47).toInt = (I_384 o 47).toInt := by rw [← e_718, q_u_k (by decide)]
              have t_732 : (I_717 o 48).toInt = (I_384 o 48).toInt := by rw [← e_718, q_u_k (by decide)]
              have t_733 : (I_717 o 49).toInt = (I_384 o 49).toInt := by rw [← e_718, q_u_k (by decide)]
              have t_734 : (I_717 o 67).toInt = (I_384 o 67).toInt := by rw [← e_718, q_u_k (by decide)]
              have l_735 : (2 : Int32).toInt = 2 := rfl
              refine ⟨fun c_736 => ?_, fun c_736 => ?_⟩
              · have d_737 := iNe c_736
                unfold fModel_next_196
                have g_738 : (0 : Int) ≤ (I_717 o 6).toInt ∧ (I_717 o 6).toInt ≤ 1600 := hR_719.at0 ra 6 (by decide)
                have a_739 : ((I_717 o 6) + 1).toInt = (I_717 o 6).toInt + (1 : Int32).toInt := tAdd (by omega) (by omega)
                have a_740 : (((I_717 o 6) + 1) + r_709).toInt = ((I_717 o 6) + 1).toInt + r_709.toInt := tAdd (by omega) (by omega)
                refine fun I_741 e_742 => ?_
                have hR_743 : RI R I_741 := hR_719.up0 ra (by decide) e_742 (show (0 : Int) ≤ (((I_717 o 6) + 1) + r_709).toInt by omega) (show (((I_717 o 6) + 1) + r_709).toInt ≤ (1601 : Int) by omega)
                have hf_744 : Fm (fun c => c = o) I0 I_741 := hf_720.set (by first | rfl | omega | (dsimp only; omega)) e_742
                have t_745 : (I_741 o 6).toInt = (I_717 o 6).toInt := by rw [← e_742, q_u_k (by decide)]
                have t_746 : (I_741 o 7).toInt = (((I_717 o 6) + 1) + r_709).toInt := by rw [← e_742, q_u_at]
                have t_747 : (I_741 o 8).toInt = (I_717 o 8).toInt := by rw [← e_742, q_u_k (by decide)]
                have t_748 : (I_741 o 9).toInt = (I_717 o 9).toInt := by rw [← e_742, q_u_k (by decide)]
                have t_749 : (I_741 o 3).toInt = (I_717 o 3).toInt := by rw [← e_742, q_u_k (by decide)]
                have t_750 : (I_741 o 4).toInt = (I_717 o 4).toInt := by rw [← e_742, q_u_k (by decide)]
                have t_751 : (I_741 o 35).toInt = (I_717 o 35).toInt := by rw [← e_742, q_u_k (by decide)]
                have t_752 : (I_741 o 44).toInt = (I_717 o 44).toInt := by rw [← e_742, q_u_k (by decide)]
                have t_753 : (I_741 o 45).toInt = (I_717 o 45).toInt := by rw [← e_742, q_u_k (by decide)]
                have t_754 : (I_741 o 46).toInt = (I_717 o 46).toInt := by rw [← e_742, q_u_k (by decide)]
                have t_755 : (I_741 o 47).toInt = (I_717 o 47).toInt := by rw [← e_742, q_u_k (by decide)]
                have t_756 : (I_741 o 48).toInt = (I_717 o 48).toInt := by rw [← e_742, q_u_k (by decide)]
                have t_757 : (I_741 o 49).toInt = (I_717 o 49).toInt := by rw [← e_742, q_u_k (by decide)]
                have t_758 : (I_741 o 67).toInt = (I_717 o 67).toInt := by rw [← e_742, q_u_k (by decide)]
                have l_759 : (5 : Int32).toInt = 5 := rfl
                refine fun I_760 e_761 => ?_
                have hR_762 : RI R I_760 := hR_743.up0 ra (by decide) e_761 (i_lo _) (i_hi _)
                have hf_763 : Fm (fun c => c = o) I0 I_760 := hf_744.set (by first | rfl | omega | (dsimp only; omega)) e_761
                have t_764 : (I_760 o 6).toInt = (I_741 o 6).toInt := by rw [← e_761, q_u_k (by decide)]
                have t_765 : (I_760 o 7).toInt = (I_741 o 7).toInt := by rw [← e_761, q_u_k (by decide)]
                have t_766 : (I_760 o 8).toInt = (5 : Int32).toInt := by rw [← e_761, q_u_at]
                have t_767 : (I_760 o 9).toInt = (I_741 o 9).toInt := by rw [← e_761, q_u_k (by decide)]
                have t_768 : (I_760 o 3).toInt = (I_741 o 3).toInt := by rw [← e_761, q_u_k (by decide)]
                have t_769 : (I_760 o 4).toInt = (I_741 o 4).toInt := by rw [← e_761, q_u_k (by decide)]
                have t_770 : (I_760 o 35).toInt = (I_741 o 35).toInt := by rw [← e_761, q_u_k (by decide)]
                have t_771 : (I_760 o 44).toInt = (I_741 o 44).toInt := by rw [← e_761, q_u_k (by decide)]
                have t_772 : (I_760 o 45).toInt = (I_741 o 45).toInt := by rw [← e_761, q_u_k (by decide)]
                have t_773 : (I_760 o 46).toInt = (I_741 o 46).toInt := by rw [← e_761, q_u_k (by decide)]
                have t_774 : (I_760 o 47).toInt = (I_741 o 47).toInt := by rw [← e_761, q_u_k (by decide)]
                have t_775 : (I_760 o 48).toInt = (I_741 o 48).toInt := by rw [← e_761, q_u_k (by decide)]
                have t_776 : (I_760 o 49).toInt = (I_741 o 49).toInt := by rw [← e_761, q_u_k (by decide)]
                have t_777 : (I_760 o 67).toInt = (I_741 o 67).toInt := by rw [← e_761, q_u_k (by decide)]
                exact (hp _ _ hR_762 hf_763 (by first | omega | (intro h; omega) | exact Or.inl rfl | exact Or.inr rfl) (by first | omega | (intro h; omega) | exact Or.inl rfl | exact Or.inr rfl) (by intro _; omega) (by intro _; omega) (by first | omega | (intro h; omega) | exact Or.inl rfl | exact Or.inr rfl) (by first | omega | (intro h; omega) | exact Or.inl rfl | exact Or.inr rfl) (by first | omega | (intro h; omega) | exact Or.inl rfl | exact Or.inr rfl) (by first | omega | (intro h; omega) | exact Or.inl rfl | exact Or.inr rfl) (by first | omega | (intro h; omega) | exact Or.inl rfl | exact Or.inr rfl) (by first | omega | (intro h; omega) | exact Or.inl rfl | exact Or.inr rfl) (by first | omega | (intro h; omega) | exact Or.inl rfl | exact Or.inr rfl) (by first | omega | (intro h; omega) | exact Or.inl rfl | exact Or.inr rfl) (by first | omega | (intro h; omega) | exact Or.inl rfl | exact Or.inr rfl) (by first | omega | (intro h; omega) | exact Or.inl rfl | exact Or.inr rfl))
              · have d_778 := iEq c_736
                have tw := pr2.two (by omega)
                have kl2 := sg_lt tw.2.2.1
                have ka2 : (a1 + 1 + 1).toInt = (a1 + 1).toInt + (1 : Int32).toInt := tAdd (by omega) (by omega)
                have g_779 : (0 : Int) ≤ (I_717 o 6).toInt ∧ (I_717 o 6).toInt ≤ 1600 := hR_719.at0 ra 6 (by decide)
                have a_780 : ((I_717 o 6) + 2).toInt = (I_717 o 6).toInt + (2 : Int32).toInt := tAdd (by omega) (by omega)
                refine y_Model_sign hok hw ra (by first | omega | (intro h; omega) | exact Or.inl rfl | exact Or.inr rfl) hR_719 (fun r_781 u_782 u_783 => ⟨r_781, I_717, L, rfl, rfl, ?_⟩)
                have s2 := u_783
                rw [hf_720 (o + 2) (by first | omega | (dsimp only; omega)), show I_717 o 3 = I0 o 3 from Int32.toInt_inj.mp (by omega), show I_717 o 6 = a1 from Int32.toInt_inj.mp (by omega), show a1 + 2 = a1 + 1 + 1 by rw [Int32.add_assoc]; rfl] at s2
                have s2 := iEq s2
                have nn := mul10 (v := I_717 o 9) (c := r_781) (by omega) (by omega) (by omega) (by omega)
                refine fun I_784 e_785 => ?_
                have hR_786 : RI R I_784 := hR_719.up0 ra (by decide) e_785 (i_lo _) (i_hi _)
                have hf_787 : Fm (fun c => c = o) I0 I_784 := hf_720.set (by first | rfl | omega | (dsimp only; omega)) e_785
                have t_788 : (I_784 o 6).toInt = (I_717 o 6).toInt := by rw [← e_785, q_u_k (by decide)]
                have t_789 : (I_784 o 7).toInt = (I_717 o 7).toInt := by rw [← e_785, q_u_k (by decide)]
                have t_790 : (I_784 o 8).toInt = (I_717 o 8).toInt := by rw [← e_785, q_u_k (by decide)]
                have t_791 : (I_784 o 9).toInt = (((10 * (I_717 o 9)) + r_781) - 48).toInt := by rw [← e_785, q_u_at]
                have t_792 : (I_784 o 3).toInt = (I_717 o 3).toInt := by rw [← e_785, q_u_k (by decide)]
                have t_793 : (I_784 o 4).toInt = (I_717 o 4).toInt := by rw [← e_785, q_u_k (by decide)]
                have t_794 : (I_784 o 35).toInt = (I_717 o 35).toInt := by rw [← e_785, q_u_k (by decide)]
                have t_795 : (I_784 o 44).toInt = (I_717 o 44).toInt := by rw [← e_785, q_u_k (by decide)]
                have t_796 : (I_784 o 45).toInt = (I_717 o 45).toInt := by rw [← e_785, q_u_k (by decide)]
                have t_797 : (I_784 o 46).toInt = (I_717 o 46).toInt := by rw [← e_785, q_u_k (by decide)]
                have t_798 : (I_784 o 47).toInt = (I_717 o 47).toInt := by rw [← e_785, q_u_k (by decide)]
                have t_799 : (I_784 o 48).toInt = (I_717 o 48).toInt := by rw [← e_785, q_u_k (by decide)]
                have t_800 : (I_784 o 49).toInt = (I_717 o 49).toInt := by rw [← e_785, q_u_k (by decide)]
                have t_801 : (I_784 o 67).toInt = (I_717 o 67).toInt := by rw [← e_785, q_u_k (by decide)]
                unfold fModel_next_196
                have g_802 : (0 : Int) ≤ (I_784 o 6).toInt ∧ (I_784 o 6).toInt ≤ 1600 := hR_786.at0 ra 6 (by decide)
                have a_803 : ((I_784 o 6) + 1).toInt = (I_784 o 6).toInt + (1 : Int32).toInt := tAdd (by omega) (by omega)
                have a_804 : (((I_784 o 6) + 1) + r_709).toInt = ((I_784 o 6) + 1).toInt + r_709.toInt := tAdd (by omega) (by omega)
                refine fun I_805 e_806 => ?_
                have hR_807 : RI R I_805 := hR_786.up0 ra (by decide) e_806 (show (0 : Int) ≤ (((I_784 o 6) + 1) + r_709).toInt by omega) (show (((I_784 o 6) + 1) + r_709).toInt ≤ (1601 : Int) by omega)
                have hf_808 : Fm (fun c => c = o) I0 I_805 := hf_787.set (by first | rfl | omega | (dsimp only; omega)) e_806
                have t_809 : (I_805 o 6).toInt = (I_784 o 6).toInt := by rw [← e_806, q_u_k (by decide)]
                have t_810 : (I_805 o 7).toInt = (((I_784 o 6) + 1) + r_709).toInt := by rw [← e_806, q_u_at]
                have t_811 : (I_805 o 8).toInt = (I_784 o 8).toInt := by rw [← e_806, q_u_k (by decide)]
                have t_812 : (I_805 o 9).toInt = (I_784 o 9).toInt := by rw [← e_806, q_u_k (by decide)]
                have t_813 : (I_805 o 3).toInt = (I_784 o 3).toInt := by rw [← e_806, q_u_k (by decide)]
                have t_814 : (I_805 o 4).toInt = (I_784 o 4).toInt := by rw [← e_806, q_u_k (by decide)]
                have t_815 : (I_805 o 35).toInt = (I_784 o 35).toInt := by rw [← e_806, q_u_k (by decide)]
                have t_816 : (I_805 o 44).toInt = (I_784 o 44).toInt := by rw [← e_806, q_u_k (by decide)]
                have t_817 : (I_805 o 45).toInt = (I_784 o 45).toInt := by rw [← e_806, q_u_k (by decide)]
                have t_818 : (I_805 o 46).toInt = (I_784 o 46).toInt := by rw [← e_806, q_u_k (by decide)]
                have t_819 : (I_805 o 47).toInt = (I_784 o 47).toInt := by rw [← e_806, q_u_k (by decide)]
                have t_820 : (I_805 o 48).toInt = (I_784 o 48).toInt := by rw [← e_806, q_u_k (by decide)]
                have t_821 : (I_805 o 49).toInt = (I_784 o 49).toInt := by rw [← e_806, q_u_k (by decide)]
                have t_822 : (I_805 o 67).toInt = (I_784 o 67).toInt := by rw [← e_806, q_u_k (by decide)]
                have l_823 : (5 : Int32).toInt = 5 := rfl
                refine fun I_824 e_825 => ?_
                have hR_826 : RI R I_824 := hR_807.up0 ra (by decide) e_825 (i_lo _) (i_hi _)
                have hf_827 : Fm (fun c => c = o) I0 I_824 := hf_808.set (by first | rfl | omega | (dsimp only; omega)) e_825
                have t_828 : (I_824 o 6).toInt = (I_805 o 6).toInt := by rw [← e_825, q_u_k (by decide)]
                have t_829 : (I_824 o 7).toInt = (I_805 o 7).toInt := by rw [← e_825, q_u_k (by decide)]
                have t_830 : (I_824 o 8).toInt = (5 : Int32).toInt := by rw [← e_825, q_u_at]
                have t_831 : (I_824 o 9).toInt = (I_805 o 9).toInt := by rw [← e_825, q_u_k (by decide)]
                have t_832 : (I_824 o 3).toInt = (I_805 o 3).toInt := by rw [← e_825, q_u_k (by decide)]
                have t_833 : (I_824 o 4).toInt = (I_805 o 4).toInt := by rw [← e_825, q_u_k (by decide)]
                have t_834 : (I_824 o 35).toInt = (I_805 o 35).toInt := by rw [← e_825, q_u_k (by decide)]
                have t_835 : (I_824 o 44).toInt = (I_805 o 44).toInt := by rw [← e_825, q_u_k (by decide)]
                have t_836 : (I_824 o 45).toInt = (I_805 o 45).toInt := by rw [← e_825, q_u_k (by decide)]
                have t_837 : (I_824 o 46).toInt = (I_805 o 46).toInt := by rw [← e_825, q_u_k (by decide)]
                have t_838 : (I_824 o 47).toInt = (I_805 o 47).toInt := by rw [← e_825, q_u_k (by decide)]
                have t_839 : (I_824 o 48).toInt = (I_805 o 48).toInt := by rw [← e_825, q_u_k (by decide)]
                have t_840 : (I_824 o 49).toInt = (I_805 o 49).toInt := by rw [← e_825, q_u_k (by decide)]
                have t_841 : (I_824 o 67).toInt = (I_805 o 67).toInt := by rw [← e_825, q_u_k (by decide)]
                exact (hp _ _ hR_826 hf_827 (by first | omega | (intro h; omega) | exact Or.inl rfl | exact Or.inr rfl) (by first | omega | (intro h; omega) | exact Or.inl rfl | exact Or.inr rfl) (by intro _; omega) (by intro _; omega) (by first | omega | (intro h; omega) | exact Or.inl rfl | exact Or.inr rfl) (by first | omega | (intro h; omega) | exact Or.inl rfl | exact Or.inr rfl) (by first | omega | (intro h; omega) | exact Or.inl rfl | exact Or.inr rfl) (by first | omega | (intro h; omega) | exact Or.inl rfl | exact Or.inr rfl) (by first | omega | (intro h; omega) | exact Or.inl rfl | exact Or.inr rfl) (by first | omega | (intro h; omega) | exact Or.inl rfl | exact Or.inr rfl) (by first | omega | (intro h; omega) | exact Or.inl rfl | exact Or.inr rfl) (by first | omega | (intro h; omega) | exact Or.inl rfl | exact Or.inr rfl) (by first | omega | (intro h; omega) | exact Or.inl rfl | exact Or.inr rfl) (by first | omega | (intro h; omega) | exact Or.inl rfl | exact Or.inr rfl))
      · have d_842 := iNlt c_404
        have l_843 : (0 : Int32).toInt = 0 := rfl
        refine fun I_844 e_845 => ?_
        have hR_846 : RI R I_844 := hR_386.up0 ra (by decide) e_845 (i_lo _) (i_hi _)
        have hf_847 : Fm (fun c => c = o) I0 I_844 := hf_387.set (by first | rfl | omega | (dsimp only; omega)) e_845
        have t_848 : (I_844 o 6).toInt = (I_384 o 6).toInt := by rw [← e_845, q_u_k (by decide)]
        have t_849 : (I_844 o 7).toInt = (I_384 o 7).toInt := by rw [← e_845, q_u_k (by decide)]
        have t_850 : (I_844 o 8).toInt = (0 : Int32).toInt := by rw [← e_845, q_u_at]
        have t_851 : (I_844 o 9).toInt = (I_384 o 9).toInt := by rw [← e_845, q_u_k (by decide)]
        have t_852 : (I_844 o 3).toInt = (I_384 o 3).toInt := by rw [← e_845, q_u_k (by decide)]
        have t_853 : (I_844 o 4).toInt = (I_384 o 4).toInt := by rw [← e_845, q_u_k (by decide)]
        have t_854 : (I_844 o 35).toInt = (I_384 o 35).toInt := by rw [← e_845, q_u_k (by decide)]
        have t_855 : (I_844 o 44).toInt = (I_384 o 44).toInt := by rw [← e_845, q_u_k (by decide)]
        have t_856 : (I_844 o 45).toInt = (I_384 o 45).toInt := by rw [← e_845, q_u_k (by decide)]
        have t_857 : (I_844 o 46).toInt = (I_384 o 46).toInt := by rw [← e_845, q_u_k (by decide)]
        have t_858 : (I_844 o 47).toInt = (I_384 o 47).toInt := by rw [← e_845, q_u_k (by decide)]
        have t_859 : (I_844 o 48).toInt = (I_384 o 48).toInt := by rw [← e_845, q_u_k (by decide)]
        have t_860 : (I_844 o 49).toInt = (I_384 o 49).toInt := by rw [← e_845, q_u_k (by decide)]
        have t_861 : (I_844 o 67).toInt = (I_384 o 67).toInt := by rw [← e_845, q_u_k (by decide)]
        have g_862 : (0 : Int) ≤ (I_844 o 3).toInt ∧ (I_844 o 3).toInt ≤ 1600 := hR_846.at0 ra 3 (by decide)
        refine fun I_863 e_864 => ?_
        have hR_865 : RI R I_863 := hR_846.up0 ra (by decide) e_864 (show (0 : Int) ≤ (I_844 o 3).toInt by omega) (show (I_844 o 3).toInt ≤ (1600 : Int) by omega)
        have hf_866 : Fm (fun c => c = o) I0 I_863 := hf_847.set (by first | rfl | omega | (dsimp only; omega)) e_864
        have t_867 : (I_863 o 6).toInt = (I_844 o 3).toInt := by rw [← e_864, q_u_at]
        have t_868 : (I_863 o 7).toInt = (I_844 o 7).toInt := by rw [← e_864, q_u_k (by decide)]
        have t_869 : (I_863 o 8).toInt = (I_844 o 8).toInt := by rw [← e_864, q_u_k (by decide)]
        have t_870 : (I_863 o 9).toInt = (I_844 o 9).toInt := by rw [← e_864, q_u_k (by decide)]
        have t_871 : (I_863 o 3).toInt = (I_844 o 3).toInt := by rw [← e_864, q_u_k (by decide)]
        have t_872 : (I_863 o 4).toInt = (I_844 o 4).toInt := by rw [← e_864, q_u_k (by decide)]
        have t_873 : (I_863 o 35).toInt = (I_844 o 35).toInt := by rw [← e_864, q_u_k (by decide)]
        have t_874 : (I_863 o 44).toInt = (I_844 o 44).toInt := by rw [← e_864, q_u_k (by decide)]
        have t_875 : (I_863 o 45).toInt = (I_844 o 45).toInt := by rw [← e_864, q_u_k (by decide)]
        have t_876 : (I_863 o 46).toInt = (I_844 o 46).toInt := by rw [← e_864, q_u_k (by decide)]
        have t_877 : (I_863 o 47).toInt = (I_844 o 47).toInt := by rw [← e_864, q_u_k (by decide)]
        have t_878 : (I_863 o 48).toInt = (I_844 o 48).toInt := by rw [← e_864, q_u_k (by decide)]
        have t_879 : (I_863 o 49).toInt = (I_844 o 49).toInt := by rw [← e_864, q_u_k (by decide)]
        have t_880 : (I_863 o 67).toInt = (I_844 o 67).toInt := by rw [← e_864, q_u_k (by decide)]
        have g_881 : (0 : Int) ≤ (I_863 o 3).toInt ∧ (I_863 o 3).toInt ≤ 1600 := hR_865.at0 ra 3 (by decide)
        refine fun I_882 e_883 => ?_
        have hR_884 : RI R I_882 := hR_865.up0 ra (by decide) e_883 (show (0 : Int) ≤ (I_863 o 3).toInt by omega) (show (I_863 o 3).toInt ≤ (1601 : Int) by omega)
        have hf_885 : Fm (fun c => c = o) I0 I_882 := hf_866.set (by first | rfl | omega | (dsimp only; omega)) e_883
        have t_886 : (I_882 o 6).toInt = (I_863 o 6).toInt := by rw [← e_883, q_u_k (by decide)]
        have t_887 : (I_882 o 7).toInt = (I_863 o 3).toInt := by rw [← e_883, q_u_at]
        have t_888 : (I_882 o 8).toInt = (I_863 o 8).toInt := by rw [← e_883, q_u_k (by decide)]
        have t_889 : (I_882 o 9).toInt = (I_863 o 9).toInt := by rw [← e_883, q_u_k (by decide)]
        have t_890 : (I_882 o 3).toInt = (I_863 o 3).toInt := by rw [← e_883, q_u_k (by decide)]
        have t_891 : (I_882 o 4).toInt = (I_863 o 4).toInt := by rw [← e_883, q_u_k (by decide)]
        have t_892 : (I_882 o 35).toInt = (I_863 o 35).toInt := by rw [← e_883, q_u_k (by decide)]
        have t_893 : (I_882 o 44).toInt = (I_863 o 44).toInt := by rw [← e_883, q_u_k (by decide)]
        have t_894 : (I_882 o 45).toInt = (I_863 o 45).toInt := by rw [← e_883, q_u_k (by decide)]
        have t_895 : (I_882 o 46).toInt = (I_863 o 46).toInt := by rw [← e_883, q_u_k (by decide)]
        have t_896 : (I_882 o 47).toInt = (I_863 o 47).toInt := by rw [← e_883, q_u_k (by decide)]
        have t_897 : (I_882 o 48).toInt = (I_863 o 48).toInt := by rw [← e_883, q_u_k (by decide)]
        have t_898 : (I_882 o 49).toInt = (I_863 o 49).toInt := by rw [← e_883, q_u_k (by decide)]
        have t_899 : (I_882 o 67).toInt = (I_863 o 67).toInt := by rw [← e_883, q_u_k (by decide)]
        exact (hp _ _ hR_884 hf_885 (by first | omega | (intro h; omega) | exact Or.inl rfl | exact Or.inr rfl) (by first | omega | (intro h; omega) | exact Or.inl rfl | exact Or.inr rfl) (by intro _; omega) (by intro _; omega) (by first | omega | (intro h; omega) | exact Or.inl rfl | exact Or.inr rfl) (by first | omega | (intro h; omega) | exact Or.inl rfl | exact Or.inr rfl) (by first | omega | (intro h; omega) | exact Or.inl rfl | exact Or.inr rfl) (by first | omega | (intro h; omega) | exact Or.inl rfl | exact Or.inr rfl) (by first | omega | (intro h; omega) | exact Or.inl rfl | exact Or.inr rfl) (by first | omega | (intro h; omega) | exact Or.inl rfl | exact Or.inr rfl) (by first | omega | (intro h; omega) | exact Or.inl rfl | exact Or.inr rfl) (by first | omega | (intro h; omega) | exact Or.inl rfl | exact Or.inr rfl) (by first | omega | (intro h; omega) | exact Or.inl rfl | exact Or.inr rfl) (by first | omega | (intro h; omega) | exact Or.inl rfl | exact Or.inr rfl))
    · have d_900 := iNle c_375
      have g_901 : (0 : Int) ≤ (I o 6).toInt ∧ (I o 6).toInt ≤ 1600 := hR.at0 ra 6 (by decide)
      refine y_Model_sign hok hw ra (by first | omega | (intro h; omega) | exact Or.inl rfl | exact Or.inr rfl) hR (fun r_902 u_903 u_904 => ⟨r_902, I, L, rfl, rfl, ?_⟩)
      have l_905 : (32 : Int32).toInt = 32 := rfl
      refine ⟨fun c_906 => ?_, fun c_906 => ?_⟩
      · have d_907 := iEq c_906
        unfold fModel_next_45
        have g_908 : (0 : Int) ≤ (I o 6).toInt ∧ (I o 6).toInt ≤ 1600 := hR.at0 ra 6 (by decide)
        have l_909 : (1 : Int32).toInt = 1 := rfl
        have a_910 : ((I o 6) + 1).toInt = (I o 6).toInt + (1 : Int32).toInt := tAdd (by omega) (by omega)
        refine fun I_911 e_912 => ?_
        have hR_913 : RI R I_911 := hR.up0 ra (by decide) e_912 (show (0 : Int) ≤ ((I o 6) + 1).toInt by omega) (show ((I o 6) + 1).toInt ≤ (1600 : Int) by omega)
        have hf_914 : Fm (fun c => c = o) I0 I_911 := hf.set (by first | rfl | omega | (dsimp only; omega)) e_912
        have t_915 : (I_911 o 6).toInt = ((I o 6) + 1).toInt := by rw [← e_912, q_u_at]
        have t_916 : (I_911 o 7).toInt = (I o 7).toInt := by rw [← e_912, q_u_k (by decide)]
        have t_917 : (I_911 o 8).toInt = (I o 8).toInt := by rw [← e_912, q_u_k (by decide)]
        have t_918 : (I_911 o 9).toInt = (I o 9).toInt := by rw [← e_912, q_u_k (by decide)]
        have t_919 : (I_911 o 3).toInt = (I o 3).toInt := by rw [← e_912, q_u_k (by decide)]
        have t_920 : (I_911 o 4).toInt = (I o 4).toInt := by rw [← e_912, q_u_k (by decide)]
        have t_921 : (I_911 o 35).toInt = (I o 35).toInt := by rw [← e_912, q_u_k (by decide)]
        have t_922 : (I_911 o 44).toInt = (I o 44).toInt := by rw [← e_912, q_u_k (by decide)]
        have t_923 : (I_911 o 45).toInt = (I o 45).toInt := by rw [← e_912, q_u_k (by decide)]
        have t_924 : (I_911 o 46).toInt = (I o 46).toInt := by rw [← e_912, q_u_k (by decide)]
        have t_925 : (I_911 o 47).toInt = (I o 47).toInt := by rw [← e_912, q_u_k (by decide)]
        have t_926 : (I_911 o 48).toInt = (I o 48).toInt := by rw [← e_912, q_u_k (by decide)]
        have t_927 : (I_911 o 49).toInt = (I o 49).toInt := by rw [← e_912, q_u_k (by decide)]
        have t_928 : (I_911 o 67).toInt = (I o 67).toInt := by rw [← e_912, q_u_k (by decide)]
        exact ih hR_913 hf_914 (by first | omega | (intro h; omega) | exact Or.inl rfl | exact Or.inr rfl) (by first | omega | (intro h; omega) | exact Or.inl rfl | exact Or.inr rfl) (by first | omega | (intro h; omega) | exact Or.inl rfl | exact Or.inr rfl) (by first | omega | (intro h; omega) | exact Or.inl rfl | exact Or.inr rfl) (by first | omega | (intro h; omega) | exact Or.inl rfl | exact Or.inr rfl) (by first | omega | (intro h; omega) | exact Or.inl rfl | exact Or.inr rfl) (by first | omega | (intro h; omega) | exact Or.inl rfl | exact Or.inr rfl) (by first | omega | (intro h; omega) | exact Or.inl rfl | exact Or.inr rfl) (by first | omega | (intro h; omega) | exact Or.inl rfl | exact Or.inr rfl) (by first | omega | (intro h; omega) | exact Or.inl rfl | exact Or.inr rfl) (by first | omega | (intro h; omega) | exact Or.inl rfl | exact Or.inr rfl) (by first | omega | (intro h; omega) | exact Or.inl rfl | exact Or.inr rfl) (by first | omega | (intro h; omega) | exact Or.inl rfl | exact Or.inr rfl) (by first | omega | (intro h; omega) | exact Or.inl rfl | exact Or.inr rfl) (by omega)
      · have d_929 := iNe c_906
        have g_930 : (0 : Int) ≤ (I o 6).toInt ∧ (I o 6).toInt ≤ 1600 := hR.at0 ra 6 (by decide)
        refine y_Model_sign hok hw ra (by first | omega | (intro h; omega) | exact Or.inl rfl | exact Or.inr rfl) hR (fun r_931 u_932 u_933 => ⟨r_931, I, L, rfl, rfl, ?_⟩)
        have l_934 : (10 : Int32).toInt = 10 := rfl
        refine ⟨fun c_935 => ?_, fun c_935 => ?_⟩
        · have d_936 := iNe c_935
          unfold fModel_next_58
          have g_937 : (0 : Int) ≤ (I o 6).toInt ∧ (I o 6).toInt ≤ 1600 := hR.at0 ra 6 (by decide)
          refine y_Model_sign hok hw ra (by first | omega | (intro h; omega) | exact Or.inl rfl | exact Or.inr rfl) hR (fun r_938 u_939 u_940 => ⟨r_938, I, L, rfl, rfl, ?_⟩)
          obtain ⟨a1, ha1⟩ : ∃ a, a = I o 6 := ⟨_, rfl⟩
          have hA : a1.toInt = (I o 6).toInt := by rw [ha1]
          have sc := u_940
          rw [hf (o + 2) (by first | omega | (dsimp only; omega)), show I o 3 = I0 o 3 from Int32.toInt_inj.mp (by omega), show I o 6 = a1 from Int32.toInt_inj.mp (by omega)] at sc
          have g_941 : (0 : Int) ≤ (I o 6).toInt ∧ (I o 6).toInt ≤ 1600 := hR.at0 ra 6 (by decide)
          have l_942 : (1 : Int32).toInt = 1 := rfl
          have a_943 : ((I o 6) + 1).toInt = (I o 6).toInt + (1 : Int32).toInt := tAdd (by omega) (by omega)
          refine fun I_944 e_945 => ?_
          have hR_946 : RI R I_944 := hR.up0 ra (by decide) e_945 (show (0 : Int) ≤ ((I o 6) + 1).toInt by omega) (show ((I o 6) + 1).toInt ≤ (1601 : Int) by omega)
          have hf_947 : Fm (fun c => c = o) I0 I_944 := hf.set (by first | rfl | omega | (dsimp only; omega)) e_945
          have t_948 : (I_944 o 6).toInt = (I o 6).toInt := by rw [← e_945, q_u_k (by decide)]
          have t_949 : (I_944 o 7).toInt = ((I o 6) + 1).toInt := by rw [← e_945, q_u_at]
          have t_950 : (I_944 o 8).toInt = (I o 8).toInt := by rw [← e_945, q_u_k (by decide)]
          have t_951 : (I_944 o 9).toInt = (I o 9).toInt := by rw [← e_945, q_u_k (by decide)]
          have t_952 : (I_944 o 3).toInt = (I o 3).toInt := by rw [← e_945, q_u_k (by decide)]
          have t_953 : (I_944 o 4).toInt = (I o 4).toInt := by rw [← e_945, q_u_k (by decide)]
          have t_954 : (I_944 o 35).toInt = (I o 35).toInt := by rw [← e_945, q_u_k (by decide)]
          have t_955 : (I_944 o 44).toInt = (I o 44).toInt := by rw [← e_945, q_u_k (by decide)]
          have t_956 : (I_944 o 45).toInt = (I o 45).toInt := by rw [← e_945, q_u_k (by decide)]
          have t_957 : (I_944 o 46).toInt = (I o 46).toInt := by rw [← e_945, q_u_k (by decide)]
          have t_958 : (I_944 o 47).toInt = (I o 47).toInt := by rw [← e_945, q_u_k (by decide)]
          have t_959 : (I_944 o 48).toInt = (I o 48).toInt := by rw [← e_945, q_u_k (by decide)]
          have t_960 : (I_944 o 49).toInt = (I o 49).toInt := by rw [← e_945, q_u_k (by decide)]
          have t_961 : (I_944 o 67).toInt = (I o 67).toInt := by rw [← e_945, q_u_k (by decide)]
          have g_962 : (0 : Int) ≤ (I_944 o 6).toInt ∧ (I_944 o 6).toInt ≤ 1600 := hR_946.at0 ra 6 (by decide)
          have g_963 : (0 : Int) ≤ (I_944 o 3).toInt ∧ (I_944 o 3).toInt ≤ 1600 := hR_946.at0 ra 3 (by decide)
          refine ⟨fun c_964 => ?_, fun c_964 => ?_⟩
          · have d_965 := iLt c_964
            have l_966 : (0 : Int32).toInt = 0 := rfl
            refine ⟨fun c_967 => ?_, fun c_967 => ?_⟩
            · have d_968 := iNe c_967
              unfold fModel_next_216
              refine y_Model_isLetter hok hR_946 (fun r_969 u_970 u_971 => ⟨r_969, I_944, L, rfl, rfl, ?_⟩)
              have b_972 : 0 ≤ r_969.toInt ∧ r_969.toInt ≤ 1 := u_970.rg
              refine ⟨fun c_973 => ?_, fun c_973 => ?_⟩
              · have d_974 := iEq c_973
                refine y_Model_isDigit hok hR_946 (fun r_975 u_976 u_977 u_978 => ⟨r_975, I_944, L, rfl, rfl, ?_⟩)
                have b_979 : 0 ≤ r_975.toInt ∧ r_975.toInt ≤ 1 := u_976.rg
                refine ⟨fun c_980 => ?_, fun c_980 => ?_⟩
                · have d_981 := iEq c_980
                  refine y_Model_isSign hok hR_946 (fun r_982 u_983 => ⟨r_982, I_944, L, rfl, rfl, ?_⟩)
                  have b_984 : 0 ≤ r_982.toInt ∧ r_982.toInt ≤ 1 := u_983.rg
                  refine ⟨fun c_985 => ?_, fun c_985 => ?_⟩
                  · have d_986 := iEq c_985
                    refine fun I_987 e_988 => ?_
                    have hR_989 : RI R I_987 := hR_946.up0 ra (by decide) e_988 (i_lo _) (i_hi _)
                    have hf_990 : Fm (fun c => c = o) I0 I_987 := hf_947.set (by first | rfl | omega | (dsimp only; omega)) e_988
                    have t_991 : (I_987 o 6).toInt = (I_944 o 6).toInt := by rw [← e_988, q_u_k (by decide)]
                    have t_992 : (I_987 o 7).toInt = (I_944 o 7).toInt := by rw [← e_988, q_u_k (by decide)]
                    have t_993 : (I_987 o 8).toInt = (1 : Int32).toInt := by rw [← e_988, q_u_at]
                    have t_994 : (I_987 o 9).toInt = (I_944 o 9).toInt := by rw [← e_988, q_u_k (by decide)]
                    have t_995 : (I_987 o 3).toInt = (I_944 o 3).toInt := by rw [← e_988, q_u_k (by decide)]
                    have t_996 : (I_987 o 4).toInt = (I_944 o 4).toInt := by rw [← e_988, q_u_k (by decide)]
                    have t_997 : (I_987 o 35).toInt = (I_944 o 35).toInt := by rw [← e_988, q_u_k (by decide)]
                    have t_998 : (I_987 o 44).toInt = (I_944 o 44).toInt := by rw [← e_988, q_u_k (by decide)]
                    have t_999 : (I_987 o 45).toInt = (I_944 o 45).toInt := by rw [← e_988, q_u_k (by decide)]
                    have t_1000 : (I_987 o 46).toInt = (I_944 o 46).toInt := by rw [← e_988, q_u_k (by decide)]
                    have t_1001 : (I_987 o 47).toInt = (I_944 o 47).toInt := by rw [← e_988, q_u_k (by decide)]
                    have t_1002 : (I_987 o 48).toInt = (I_944 o 48).toInt := by rw [← e_988, q_u_k (by decide)]
                    have t_1003 : (I_987 o 49).toInt = (I_944 o 49).toInt := by rw [← e_988, q_u_k (by decide)]
                    have t_1004 : (I_987 o 67).toInt = (I_944 o 67).toInt := by rw [← e_988, q_u_k (by decide)]
                    exact (hp _ _ hR_989 hf_990 (by first | omega | (intro h; omega) | exact Or.inl rfl | exact Or.inr rfl) (by first | omega | (intro h; omega) | exact Or.inl rfl | exact Or.inr rfl) (by intro _; omega) (by intro _; omega) (by first | omega | (intro h; omega) | exact Or.inl rfl | exact Or.inr rfl) (by first | omega | (intro h; omega) | exact Or.inl rfl | exact Or.inr rfl) (by first | omega | (intro h; omega) | exact Or.inl rfl | exact Or.inr rfl) (by first | omega | (intro h; omega) | exact Or.inl rfl | exact Or.inr rfl) (by first | omega | (intro h; omega) | exact Or.inl rfl | exact Or.inr rfl) (by first | omega | (intro h; omega) | exact Or.inl rfl | exact Or.inr rfl) (by first | omega | (intro h; omega) | exact Or.inl rfl | exact Or.inr rfl) (by first | omega | (intro h; omega) | exact Or.inl rfl | exact Or.inr rfl) (by first | omega | (intro h; omega) | exact Or.inl rfl | exact Or.inr rfl) (by first | omega | (intro h; omega) | exact Or.inl rfl | exact Or.inr rfl))
                  · have d_1005 := iNe c_985
                    have l_1006 : (6 : Int32).toInt = 6 := rfl
                    refine fun I_1007 e_1008 => ?_
                    have hR_1009 : RI R I_1007 := hR_946.up0 ra (by decide) e_1008 (i_lo _) (i_hi _)
                    have hf_1010 : Fm (fun c => c = o) I0 I_1007 := hf_947.set (by first | rfl | omega | (dsimp only; omega)) e_1008
                    have t_1011 : (I_1007 o 6).toInt = (I_944 o 6).toInt := by rw [← e_1008, q_u_k (by decide)]
                    have t_1012 : (I_1007 o 7).toInt = (I_944 o 7).toInt := by rw [← e_1008, q_u_k (by decide)]
                    have t_1013 : (I_1007 o 8).toInt = (6 : Int32).toInt := by rw [← e_1008, q_u_at]
                    have t_1014 : (I_1007 o 9).toInt = (I_944 o 9).toInt := by rw [← e_1008, q_u_k (by decide)]
                    have t_1015 : (I_1007 o 3).toInt = (I_944 o 3).toInt := by rw [← e_1008, q_u_k (by decide)]
                    have t_1016 : (I_1007 o 4).toInt = (I_944 o 4).toInt := by rw [← e_1008, q_u_k (by decide)]
                    have t_1017 : (I_1007 o 35).toInt = (I_944 o 35).toInt := by rw [← e_1008, q_u_k (by decide)]
                    have t_1018 : (I_1007 o 44).toInt = (I_944 o 44).toInt := by rw [← e_1008, q_u_k (by decide)]
                    have t_1019 : (I_1007 o 45).toInt = (I_944 o 45).toInt := by rw [← e_1008, q_u_k (by decide)]
                    have t_1020 : (I_1007 o 46).toInt = (I_944 o 46).toInt := by rw [← e_1008, q_u_k (by decide)]
                    have t_1021 : (I_1007 o 47).toInt = (I_944 o 47).toInt := by rw [← e_1008, q_u_k (by decide)]
                    have t_1022 : (I_1007 o 48).toInt = (I_944 o 48).toInt := by rw [← e_1008, q_u_k (by decide)]
                    have t_1023 : (I_1007 o 49).toInt = (I_944 o 49).toInt := by rw [← e_1008, q_u_k (by decide)]
                    have t_1024 : (I_1007 o 67).toInt = (I_944 o 67).toInt := by rw [← e_1008, q_u_k (by decide)]
                    exact (hp _ _ hR_1009 hf_1010 (by first | omega | (intro h; omega) | exact Or.inl rfl | exact Or.inr rfl) (by first | omega | (intro h; omega) | exact Or.inl rfl | exact Or.inr rfl) (by intro _; omega) (by intro _; omega) (by first | omega | (intro h; omega) | exact Or.inl rfl | exact Or.inr rfl) (by first | omega | (intro h; omega) | exact Or.inl rfl | exact Or.inr rfl) (by first | omega | (intro h; omega) | exact Or.inl rfl | exact Or.inr rfl) (by first | omega | (intro h; omega) | exact Or.inl rfl | exact Or.inr rfl) (by first | omega | (intro h; omega) | exact Or.inl rfl | exact Or.inr rfl) (by first | omega | (intro h; omega) | exact Or.inl rfl | exact Or.inr rfl) (by first | omega | (intro h; omega) | exact Or.inl rfl | exact Or.inr rfl) (by first | omega | (intro h; omega) | exact Or.inl rfl | exact Or.inr rfl) (by first | omega | (intro h; omega) | exact Or.inl rfl | exact Or.inr rfl) (by first | omega | (intro h; omega) | exact Or.inl rfl | exact Or.inr rfl))
                · have d_1025 := iNe c_980
                  have dc := u_977 (by omega)
                  refine fun I_1026 e_1027 => ?_
                  have hR_1028 : RI R I_1026 := hR_946.up0 ra (by decide) e_1027 (i_lo _) (i_hi _)
                  have hf_1029 : Fm (fun c => c = o) I0 I_1026 := hf_947.set (by first | rfl | omega | (dsimp only; omega)) e_1027
                  have t_1030 : (I_1026 o 6).toInt = (I_944 o 6).toInt := by rw [← e_1027, q_u_k (by decide)]
                  have t_1031 : (I_1026 o 7).toInt = (I_944 o 7).toInt := by rw [← e_1027, q_u_k (by decide)]
                  have t_1032 : (I_1026 o 8).toInt = (I_944 o 8).toInt := by rw [← e_1027, q_u_k (by decide)]
                  have t_1033 : (I_1026 o 9).toInt = (0 : Int32).toInt := by rw [← e_1027, q_u_at]
                  have t_1034 : (I_1026 o 3).toInt = (I_944 o 3).toInt := by rw [← e_1027, q_u_k (by decide)]
                  have t_1035 : (I_1026 o 4).toInt = (I_944 o 4).toInt := by rw [← e_1027, q_u_k (by decide)]
                  have t_1036 : (I_1026 o 35).toInt = (I_944 o 35).toInt := by rw [← e_1027, q_u_k (by decide)]
                  have t_1037 : (I_1026 o 44).toInt = (I_944 o 44).toInt := by rw [← e_1027, q_u_k (by decide)]
                  have t_1038 : (I_1026 o 45).toInt = (I_944 o 45).toInt := by rw [← e_1027, q_u_k (by decide)]
                  have t_1039 : (I_1026 o 46).toInt = (I_944 o 46).toInt := by rw [← e_1027, q_u_k (by decide)]
                  have t_1040 : (I_1026 o 47).toInt = (I_944 o 47).toInt := by rw [← e_1027, q_u_k (by decide)]
                  have t_1041 : (I_1026 o 48).toInt = (I_944 o 48).toInt := by rw [← e_1027, q_u_k (by decide)]
                  have t_1042 : (I_1026 o 49).toInt = (I_944 o 49).toInt := by rw [← e_1027, q_u_k (by decide)]
                  have t_1043 : (I_1026 o 67).toInt = (I_944 o 67).toInt := by rw [← e_1027, q_u_k (by decide)]
                  have g_1044 : (0 : Int) ≤ (I_1026 o 6).toInt ∧ (I_1026 o 6).toInt ≤ 1600 := hR_1028.at0 ra 6 (by decide)
                  refine fun I_1045 e_1046 => ?_
                  have hR_1047 : RI R I_1045 := hR_1028.up0 ra (by decide) e_1046 (show (0 : Int) ≤ (I_1026 o 6).toInt by omega) (show (I_1026 o 6).toInt ≤ (1601 : Int) by omega)
                  have hf_1048 : Fm (fun c => c = o) I0 I_1045 := hf_1029.set (by first | rfl | omega | (dsimp only; omega)) e_1046
                  have t_1049 : (I_1045 o 6).toInt = (I_1026 o 6).toInt := by rw [← e_1046, q_u_k (by decide)]
                  have t_1050 : (I_1045 o 7).toInt = (I_1026 o 6).toInt := by rw [← e_1046, q_u_at]
                  have t_1051 : (I_1045 o 8).toInt = (I_1026 o 8).toInt := by rw [← e_1046, q_u_k (by decide)]
                  have t_1052 : (I_1045 o 9).toInt = (I_1026 o 9).toInt := by rw [← e_1046, q_u_k (by decide)]
                  have t_1053 : (I_1045 o 3).toInt = (I_1026 o 3).toInt := by rw [← e_1046, q_u_k (by decide)]
                  have t_1054 : (I_1045 o 4).toInt = (I_1026 o 4).toInt := by rw [← e_1046, q_u_k (by decide)]
                  have t_1055 : (I_1045 o 35).toInt = (I_1026 o 35).toInt := by rw [← e_1046, q_u_k (by decide)]
                  have t_1056 : (I_1045 o 44).toInt = (I_1026 o 44).toInt := by rw [← e_1046, q_u_k (by decide)]
                  have t_1057 : (I_1045 o 45).toInt = (I_1026 o 45).toInt := by rw [← e_1046, q_u_k (by decide)]
                  have t_1058 : (I_1045 o 46).toInt = (I_1026 o 46).toInt := by rw [← e_1046, q_u_k (by decide)]
                  have t_1059 : (I_1045 o 47).toInt = (I_1026 o 47).toInt := by rw [← e_1046, q_u_k (by decide)]
                  have t_1060 : (I_1045 o 48).toInt = (I_1026 o 48).toInt := by rw [← e_1046, q_u_k (by decide)]
                  have t_1061 : (I_1045 o 49).toInt = (I_1026 o 49).toInt := by rw [← e_1046, q_u_k (by decide)]
                  have t_1062 : (I_1045 o 67).toInt = (I_1026 o 67).toInt := by rw [← e_1046, q_u_k (by decide)]
                  exact yModel_next_363 (I0 := I0) (L0 := L0) hok hw ra hq0 hp  _ hR_1047 hf_1048 (by first | omega | (intro h; omega) | exact Or.inl rfl | exact Or.inr rfl) (by first | omega | (intro h; omega) | exact Or.inl rfl | exact Or.inr rfl) (by first | exact sgLo sc (by omega) (by omega) | exact sgLo (a := I o 6) rfl (by omega) (by omega)) (by first | exact sgHi sc (by omega) (by omega) | exact sgHi (a := I o 6) rfl (by omega) (by omega)) (by first | omega | (intro h; omega) | exact Or.inl rfl | exact Or.inr rfl) (by first | omega | (intro h; omega) | exact Or.inl rfl | exact Or.inr rfl) (by first | omega | (intro h; omega) | exact Or.inl rfl | exact Or.inr rfl) (by first | omega | (intro h; omega) | exact Or.inl rfl | exact Or.inr rfl) (by first | omega | (intro h; omega) | exact Or.inl rfl | exact Or.inr rfl) (by first | omega | (intro h; omega) | exact Or.inl rfl | exact Or.inr rfl) (by first | omega | (intro h; omega) | exact Or.inl rfl | exact Or.inr rfl) (by first | omega | (intro h; omega) | exact Or.inl rfl | exact Or.inr rfl) (by first | omega | (intro h; omega) | exact Or.inl rfl | exact Or.inr rfl) (by first | omega | (intro h; omega) | exact Or.inl rfl | exact Or.inr rfl) (by first | omega | (intro h; omega) | exact Or.inl rfl | exact Or.inr rfl) (Nat.lt_succ_self _)
              · have d_1063 := iNe c_973
                exact yModel_next_223 (I0 := I0) (L0 := L0) hok hw ra hq0 hp  _ hR_946 hf_947 (by first | omega | (intro h; omega) | exact Or.inl rfl | exact Or.inr rfl) (by first | omega | (intro h; omega) | exact Or.inl rfl | exact Or.inr rfl) (by first | omega | (intro h; omega) | exact Or.inl rfl | exact Or.inr rfl) (by first | omega | (intro h; omega) | exact Or.inl rfl | exact Or.inr rfl) (by first | omega | (intro h; omega) | exact Or.inl rfl | exact Or.inr rfl) (by first | omega | (intro h; omega) | exact Or.inl rfl | exact Or.inr rfl) (by first | omega | (intro h; omega) | exact Or.inl rfl | exact Or.inr rfl) (by first | omega | (intro h; omega) | exact Or.inl rfl | exact Or.inr rfl) (by first | omega | (intro h; omega) | exact Or.inl rfl | exact Or.inr rfl) (by first | omega | (intro h; omega) | exact Or.inl rfl | exact Or.inr rfl) (by first | omega | (intro h; omega) | exact Or.inl rfl | exact Or.inr rfl) (by first | omega | (intro h; omega) | exact Or.inl rfl | exact Or.inr rfl) (by first | omega | (intro h; omega) | exact Or.inl rfl | exact Or.inr rfl) (Nat.lt_succ_self _)
            · have d_1064 := iEq c_967
              have l_1065 : (112 : Int32).toInt = 112 := rfl
              refine ⟨fun c_1066 => ?_, fun c_1066 => ?_⟩
              · have d_1067 := iNe c_1066
                unfold fModel_next_216
                refine y_Model_isLetter hok hR_946 (fun r_1068 u_1069 u_1070 => ⟨r_1068, I_944, L, rfl, rfl, ?_⟩)
                have b_1071 : 0 ≤ r_1068.toInt ∧ r_1068.toInt ≤ 1 := u_1069.rg
                refine ⟨fun c_1072 => ?_, fun c_1072 => ?_⟩
                · have d_1073 := iEq c_1072
                  refine y_Model_isDigit hok hR_946 (fun r_1074 u_1075 u_1076 u_1077 => ⟨r_1074, I_944, L, rfl, rfl, ?_⟩)
                  have b_1078 : 0 ≤ r_1074.toInt ∧ r_1074.toInt ≤ 1 := u_1075.rg
                  refine ⟨fun c_1079 => ?_, fun c_1079 => ?_⟩
                  · have d_1080 := iEq c_1079
                    refine y_Model_isSign hok hR_946 (fun r_1081 u_1082 => ⟨r_1081, I_944, L, rfl, rfl, ?_⟩)
                    have b_1083 : 0 ≤ r_1081.toInt ∧ r_1081.toInt ≤ 1 := u_1082.rg
                    refine ⟨fun c_1084 => ?_, fun c_1084 => ?_⟩
                    · have d_1085 := iEq c_1084
                      refine fun I_1086 e_1087 => ?_
                      have hR_1088 : RI R I_1086 := hR_946.up0 ra (by decide) e_1087 (i_lo _) (i_hi _)
                      have hf_1089 : Fm (fun c => c = o) I0 I_1086 := hf_947.set (by first | rfl | omega | (dsimp only; omega)) e_1087
                      have t_1090 : (I_1086 o 6).toInt = (I_944 o 6).toInt := by rw [← e_1087, q_u_k (by decide)]
                      have t_1091 : (I_1086 o 7).toInt = (I_944 o 7).toInt := by rw [← e_1087, q_u_k (by decide)]
                      have t_1092 : (I_1086 o 8).toInt = (1 : Int32).toInt := by rw [← e_1087, q_u_at]
                      have t_1093 : (I_1086 o 9).toInt = (I_944 o 9).toInt := by rw [← e_1087, q_u_k (by decide)]
                      have t_1094 : (I_1086 o 3).toInt = (I_944 o 3).toInt := by rw [← e_1087, q_u_k (by decide)]
                      have t_1095 : (I_1086 o 4).toInt = (I_944 o 4).toInt := by rw [← e_1087, q_u_k (by decide)]
                      have t_1096 : (I_1086 o 35).toInt = (I_944 o 35).toInt := by rw [← e_1087, q_u_k (by decide)]
                      have t_1097 : (I_1086 o 44).toInt = (I_944 o 44).toInt := by rw [← e_1087, q_u_k (by decide)]
                      have t_1098 : (I_1086 o 45).toInt = (I_944 o 45).toInt := by rw [← e_1087, q_u_k (by decide)]
                      have t_1099 : (I_1086 o 46).toInt = (I_944 o 46).toInt := by rw [← e_1087, q_u_k (by decide)]
                      have t_1100 : (I_1086 o 47).toInt = (I_944 o 47).toInt := by rw [← e_1087, q_u_k (by decide)]
                      have t_1101 : (I_1086 o 48).toInt = (I_944 o 48).toInt := by rw [← e_1087, q_u_k (by decide)]
                      have t_1102 : (I_1086 o 49).toInt = (I_944 o 49).toInt := by rw [← e_1087, q_u_k (by decide)]
                      have t_1103 : (I_1086 o 67).toInt = (I_944 o 67).toInt := by rw [← e_1087, q_u_k (by decide)]
                      exact (hp _ _ hR_1088 hf_1089 (by first | omega | (intro h; omega) | exact Or.inl rfl | exact Or.inr rfl) (by first | omega | (intro h; omega) | exact Or.inl rfl | exact Or.inr rfl) (by intro _; omega) (by intro _; omega) (by first | omega | (intro h; omega) | exact Or.inl rfl | exact Or.inr rfl) (by first | omega | (intro h; omega) | exact Or.inl rfl | exact Or.inr rfl) (by first | omega | (intro h; omega) | exact Or.inl rfl | exact Or.inr rfl) (by first | omega | (intro h; omega) | exact Or.inl rfl | exact Or.inr rfl) (by first | omega | (intro h; omega) | exact Or.inl rfl | exact Or.inr rfl) (by first | omega | (intro h; omega) | exact Or.inl rfl | exact Or.inr rfl) (by first | omega | (intro h; omega) | exact Or.inl rfl | exact Or.inr rfl) (by first | omega | (intro h; omega) | exact Or.inl rfl | exact Or.inr rfl) (by first | omega | (intro h; omega) | exact Or.inl rfl | exact Or.inr rfl) (by first | omega | (intro h; omega) | exact Or.inl rfl | exact Or.inr rfl))
                    · have d_1104 := iNe c_1084
                      have l_1105 : (6 : Int32).toInt = 6 := rfl
                      refine fun I_1106 e_1107 => ?_
                      have hR_1108 : RI R I_1106 := hR_946.up0 ra (by decide) e_1107 (i_lo _) (i_hi _)
                      have hf_1109 : Fm (fun c => c = o) I0 I_1106 := hf_947.set (by first | rfl | omega | (dsimp only; omega)) e_1107
                      have t_1110 : (I_1106 o 6).toInt = (I_944 o 6).toInt := by rw [← e_1107, q_u_k (by decide)]
                      have t_1111 : (I_1106 o 7).toInt = (I_944 o 7).toInt := by rw [← e_1107, q_u_k (by decide)]
                      have t_1112 : (I_1106 o 8).toInt = (6 : Int32).toInt := by rw [← e_1107, q_u_at]
                      have t_1113 : (I_1106 o 9).toInt = (I_944 o 9).toInt := by rw [← e_1107, q_u_k (by decide)]
                      have t_1114 : (I_1106 o 3).toInt = (I_944 o 3).toInt := by rw [← e_1107, q_u_k (by decide)]
                      have t_1115 : (I_1106 o 4).toInt = (I_944 o 4).toInt := by rw [← e_1107, q_u_k (by decide)]
                      have t_1116 : (I_1106 o 35).toInt = (I_944 o 35).toInt := by rw [← e_1107, q_u_k (by decide)]
                      have t_1117 : (I_1106 o 44).toInt = (I_944 o 44).toInt := by rw [← e_1107, q_u_k (by decide)]
                      have t_1118 : (I_1106 o 45).toInt = (I_944 o 45).toInt := by rw [← e_1107, q_u_k (by decide)]
                      have t_1119 : (I_1106 o 46).toInt = (I_944 o 46).toInt := by rw [← e_1107, q_u_k (by decide)]
                      have t_1120 : (I_1106 o 47).toInt = (I_944 o 47).toInt := by rw [← e_1107, q_u_k (by decide)]
                      have t_1121 : (I_1106 o 48).toInt = (I_944 o 48).toInt := by rw [← e_1107, q_u_k (by decide)]
                      have t_1122 : (I_1106 o 49).toInt = (I_944 o 49).toInt := by rw [← e_1107, q_u_k (by decide)]
                      have t_1123 : (I_1106 o 67).toInt = (I_944 o 67).toInt := by rw [← e_1107, q_u_k (by decide)]
                      exact (hp _ _ hR_1108 hf_1109 (by first | omega | (intro h; omega) | exact Or.inl rfl | exact Or.inr rfl) (by first | omega | (intro h; omega) | exact Or.inl rfl | exact Or.inr rfl) (by intro _; omega) (by intro _; omega) (by first | omega | (intro h; omega) | exact Or.inl rfl | exact Or.inr rfl) (by first | omega | (intro h; omega) | exact Or.inl rfl | exact Or.inr rfl) (by first | omega | (intro h; omega) | exact Or.inl rfl | exact Or.inr rfl) (by first | omega | (intro h; omega) | exact Or.inl rfl | exact Or.inr rfl) (by first | omega | (intro h; omega) | exact Or.inl rfl | exact Or.inr rfl) (by first | omega | (intro h; omega) | exact Or.inl rfl | exact Or.inr rfl) (by first | omega | (intro h; omega) | exact Or.inl rfl | exact Or.inr rfl) (by first | omega | (intro h; omega) | exact Or.inl rfl | exact Or.inr rfl) (by first | omega | (intro h; omega) | exact Or.inl rfl | exact Or.inr rfl) (by first | omega | (intro h; omega) | exact Or.inl rfl | exact Or.inr rfl))
                  · have d_1124 := iNe c_1079
                    have dc := u_1076 (by omega)
                    refine fun I_1125 e_1126 => ?_
                    have hR_1127 : RI R I_1125 := hR_946.up0 ra (by decide) e_1126 (i_lo _) (i_hi _)
                    have hf_1128 : Fm (fun c => c = o) I0 I_1125 := hf_947.set (by first | rfl | omega | (dsimp only; omega)) e_1126
                    have t_1129 : (I_1125 o 6).toInt = (I_944 o 6).toInt := by rw [← e_1126, q_u_k (by decide)]
                    have t_1130 : (I_1125 o 7).toInt = (I_944 o 7).toInt := by rw [← e_1126, q_u_k (by decide)]
                    have t_1131 : (I_1125 o 8).toInt = (I_944 o 8).toInt := by rw [← e_1126, q_u_k (by decide)]
                    have t_1132 : (I_1125 o 9).toInt = (0 : Int32).toInt := by rw [← e_1126, q_u_at]
                    have t_1133 : (I_1125 o 3).toInt = (I_944 o 3).toInt := by rw [← e_1126, q_u_k (by decide)]
                    have t_1134 : (I_1125 o 4).toInt = (I_944 o 4).toInt := by rw [← e_1126, q_u_k (by decide)]
                    have t_1135 : (I_1125 o 35).toInt = (I_944 o 35).toInt := by rw [← e_1126, q_u_k (by decide)]
                    have t_1136 : (I_1125 o 44).toInt = (I_944 o 44).toInt := by rw [← e_1126, q_u_k (by decide)]
                    have t_1137 : (I_1125 o 45).toInt = (I_944 o 45).toInt := by rw [← e_1126, q_u_k (by decide)]
                    have t_1138 : (I_1125 o 46).toInt = (I_944 o 46).toInt := by rw [← e_1126, q_u_k (by decide)]
                    have t_1139 : (I_1125 o 47).toInt = (I_944 o 47).toInt := by rw [← e_1126, q_u_k (by decide)]
                    have t_1140 : (I_1125 o 48).toInt = (I_944 o 48).toInt := by rw [← e_1126, q_u_k (by decide)]
                    have t_1141 : (I_1125 o 49).toInt = (I_944 o 49).toInt := by rw [← e_1126, q_u_k (by decide)]
                    have t_1142 : (I_1125 o 67).toInt = (I_944 o 67).toInt := by rw [← e_1126, q_u_k (by decide)]
                    have g_1143 : (0 : Int) ≤ (I_1125 o 6).toInt ∧ (I_1125 o 6).toInt ≤ 1600 := hR_1127.at0 ra 6 (by decide)
                    refine fun I_1144 e_1145 => ?_
                    have hR_1146 : RI R I_1144 := hR_1127.up0 ra (by decide) e_1145 (show (0 : Int) ≤ (I_1125 o 6).toInt by omega) (show (I_1125 o 6).toInt ≤ (1601 : Int) by omega)
                    have hf_1147 : Fm (fun c => c = o) I0 I_1144 := hf_1128.set (by first | rfl | omega | (dsimp only; omega)) e_1145
                    have t_1148 : (I_1144 o 6).toInt = (I_1125 o 6).toInt := by rw [← e_1145, q_u_k (by decide)]
                    have t_1149 : (I_1144 o 7).toInt = (I_1125 o 6).toInt := by rw [← e_1145, q_u_at]
                    have t_1150 : (I_1144 o 8).toInt = (I_1125 o 8).toInt := by rw [← e_1145, q_u_k (by decide)]
                    have t_1151 : (I_1144 o 9).toInt = (I_1125 o 9).toInt := by rw [← e_1145, q_u_k (by decide)]
                    have t_1152 : (I_1144 o 3).toInt = (I_1125 o 3).toInt := by rw [← e_1145, q_u_k (by decide)]
                    have t_1153 : (I_1144 o 4).toInt = (I_1125 o 4).toInt := by rw [← e_1145, q_u_k (by decide)]
                    have t_1154 : (I_1144 o 35).toInt = (I_1125 o 35).toInt := by rw [← e_1145, q_u_k (by decide)]
                    have t_1155 : (I_1144 o 44).toInt = (I_1125 o 44).toInt := by rw [← e_1145, q_u_k (by decide)]
                    have t_1156 : (I_1144 o 45).toInt = (I_1125 o 45).toInt := by rw [← e_1145, q_u_k (by decide)]
                    have t_1157 : (I_1144 o 46).toInt = (I_1125 o 46).toInt := by rw [← e_1145, q_u_k (by decide)]
                    have t_1158 : (I_1144 o 47).toInt = (I_1125 o 47).toInt := by rw [← e_1145, q_u_k (by decide)]
                    have t_1159 : (I_1144 o 48).toInt = (I_1125 o 48).toInt := by rw [← e_1145, q_u_k (by decide)]
                    have t_1160 : (I_1144 o 49).toInt = (I_1125 o 49).toInt := by rw [← e_1145, q_u_k (by decide)]
                    have t_1161 : (I_1144 o 67).toInt = (I_1125 o 67).toInt := by rw [← e_1145, q_u_k (by decide)]
                    exact yModel_next_363 (I0 := I0) (L0 := L0) hok hw ra hq0 hp  _ hR_1146 hf_1147 (by first | omega | (intro h; omega) | exact Or.inl rfl | exact Or.inr rfl) (by first | omega | (intro h; omega) | exact Or.inl rfl | exact Or.inr rfl) (by first | exact sgLo sc (by omega) (by omega) | exact sgLo (a := I o 6) rfl (by omega) (by omega)) (by first | exact sgHi sc (by omega) (by omega) | exact sgHi (a := I o 6) rfl (by omega) (by omega)) (by first | omega | (intro h; omega) | exact Or.inl rfl | exact Or.inr rfl) (by first | omega | (intro h; omega) | exact Or.inl rfl | exact Or.inr rfl) (by first | omega | (intro h; omega) | exact Or.inl rfl | exact Or.inr rfl) (by first | omega | (intro h; omega) | exact Or.inl rfl | exact Or.inr rfl) (by first | omega | (intro h; omega) | exact Or.inl rfl | exact Or.inr rfl) (by first | omega | (intro h; omega) | exact Or.inl rfl | exact Or.inr rfl) (by first | omega | (intro h; omega) | exact Or.inl rfl | exact Or.inr rfl) (by first | omega | (intro h; omega) | exact Or.inl rfl | exact Or.inr rfl) (by first | omega | (intro h; omega) | exact Or.inl rfl | exact Or.inr rfl) (by first | omega | (intro h; omega) | exact Or.inl rfl | exact Or.inr rfl) (by first | omega | (intro h; omega) | exact Or.inl rfl | exact Or.inr rfl) (Nat.lt_succ_self _)
                · have d_1162 := iNe c_1072
                  exact yModel_next_223 (I0 := I0) (L0 := L0) hok hw ra hq0 hp  _ hR_946 hf_947 (by first | omega | (intro h; omega) | exact Or.inl rfl | exact Or.inr rfl) (by first | omega | (intro h; omega) | exact Or.inl rfl | exact Or.inr rfl) (by first | omega | (intro h; omega) | exact Or.inl rfl | exact Or.inr rfl) (by first | omega | (intro h; omega) | exact Or.inl rfl | exact Or.inr rfl) (by first | omega | (intro h; omega) | exact Or.inl rfl | exact Or.inr rfl) (by first | omega | (intro h; omega) | exact Or.inl rfl | exact Or.inr rfl) (by first | omega | (intro h; omega) | exact Or.inl rfl | exact Or.inr rfl) (by first | omega | (intro h; omega) | exact Or.inl rfl | exact Or.inr rfl) (by first | omega | (intro h; omega) | exact Or.inl rfl | exact Or.inr rfl) (by first | omega | (intro h; omega) | exact Or.inl rfl | exact Or.inr rfl) (by first | omega | (intro h; omega) | exact Or.inl rfl | exact Or.inr rfl) (by first | omega | (intro h; omega) | exact Or.inl rfl | exact Or.inr rfl) (by first | omega | (intro h; omega) | exact Or.inl rfl | exact Or.inr rfl) (Nat.lt_succ_self _)
              · have d_1163 := iEq c_1066
                have g_1164 : (0 : Int) ≤ (I_944 o 6).toInt ∧ (I_944 o 6).toInt ≤ 1600 := hR_946.at0 ra 6 (by decide)
                have a_1165 : ((I_944 o 6) + 1).toInt = (I_944 o 6).toInt + (1 : Int32).toInt := tAdd (by omega) (by omega)
                refine y_Model_pointAt hok hw ra (by first | omega | (intro h; omega) | exact Or.inl rfl | exact Or.inr rfl) hR_946 (fun r_1166 u_1167 u_1168 => ⟨r_1166, I_944, L, rfl, rfl, ?_⟩)
                refine ⟨fun c_1169 => ?_, fun c_1169 => ?_⟩
                · have d_1170 := iLe c_1169
                  unfold fModel_next_216
                  refine y_Model_isLetter hok hR_946 (fun r_1171 u_1172 u_1173 => ⟨r_1171, I_944, L, rfl, rfl, ?_⟩)
                  have b_1174 : 0 ≤ r_1171.toInt ∧ r_1171.toInt ≤ 1 := u_1172.rg
                  refine ⟨fun c_1175 => ?_, fun c_1175 => ?_⟩
                  · have d_1176 := iEq c_1175
                    refine y_Model_isDigit hok hR_946 (fun r_1177 u_1178 u_1179 u_1180 => ⟨r_1177, I_944, L, rfl, rfl, ?_⟩)
                    have b_1181 : 0 ≤ r_1177.toInt ∧ r_1177.toInt ≤ 1 := u_1178.rg
                    refine ⟨fun c_1182 => ?_, fun c_1182 => ?_⟩
                    · have d_1183 := iEq c_1182
                      refine y_Model_isSign hok hR_946 (fun r_1184 u_1185 => ⟨r_1184, I_944, L, rfl, rfl, ?_⟩)
                      have b_1186 : 0 ≤ r_1184.toInt ∧ r_1184.toInt ≤ 1 := u_1185.rg
                      refine ⟨fun c_1187 => ?_, fun c_1187 => ?_⟩
                      · have d_1188 := iEq c_1187
                        refine fun I_1189 e_1190 => ?_
                        have hR_1191 : RI R I_1189 := hR_946.up0 ra (by decide) e_1190 (i_lo _) (i_hi _)
                        have hf_1192 : Fm (fun c => c = o) I0 I_1189 := hf_947.set (by first | rfl | omega | (dsimp only; omega)) e_1190
                        have t_1193 : (I_1189 o 6).toInt = (I_944 o 6).toInt := by rw [← e_1190, q_u_k (by decide)]
                        have t_1194 : (I_1189 o 7).toInt = (I_944 o 7).toInt := by rw [← e_1190, q_u_k (by decide)]
                        have t_1195 : (I_1189 o 8).toInt = (1 : Int32).toInt := by rw [← e_1190, q_u_at]
                        have t_1196 : (I_1189 o 9).toInt = (I_944 o 9).toInt := by rw [← e_1190, q_u_k (by decide)]
                        have t_1197 : (I_1189 o 3).toInt = (I_944 o 3).toInt := by rw [← e_1190, q_u_k (by decide)]
                        have t_1198 : (I_1189 o 4).toInt = (I_944 o 4).toInt := by rw [← e_1190, q_u_k (by decide)]
                        have t_1199 : (I_1189 o 35).toInt = (I_944 o 35).toInt := by rw [← e_1190, q_u_k (by decide)]
                        have t_1200 : (I_1189 o 44).toInt = (I_944 o 44).toInt := by rw [← e_1190, q_u_k (by decide)]
                        have t_1201 : (I_1189 o 45).toInt = (I_944 o 45).toInt := by rw [← e_1190, q_u_k (by decide)]
                        have t_1202 : (I_1189 o 46).toInt = (I_944 o 46).toInt := by rw [← e_1190, q_u_k (by decide)]
                        have t_1203 : (I_1189 o 47).toInt = (I_944 o 47).toInt := by rw [← e_1190, q_u_k (by decide)]
                        have t_1204 : (I_1189 o 48).toInt = (I_944 o 48).toInt := by rw [← e_1190, q_u_k (by decide)]
                        have t_1205 : (I_1189 o 49).toInt = (I_944 o 49).toInt := by rw [← e_1190, q_u_k (by decide)]
                        have t_1206 : (I_1189 o 67).toInt = (I_944 o 67).toInt := by rw [← e_1190, q_u_k (by decide)]
                        exact (hp _ _ hR_1191 hf_1192 (by first | omega | (intro h; omega) | exact Or.inl rfl | exact Or.inr rfl) (by first | omega | (intro h; omega) | exact Or.inl rfl | exact Or.inr rfl) (by intro _; omega) (by intro _; omega) (by first | omega | (intro h; omega) | exact Or.inl rfl | exact Or.inr rfl) (by first | omega | (intro h; omega) | exact Or.inl rfl | exact Or.inr rfl) (by first | omega | (intro h; omega) | exact Or.inl rfl | exact Or.inr rfl) (by first | omega | (intro h; omega) | exact Or.inl rfl | exact Or.inr rfl) (by first | omega | (intro h; omega) | exact Or.inl rfl | exact Or.inr rfl) (by first | omega | (intro h; omega) | exact Or.inl rfl | exact Or.inr rfl) (by first | omega | (intro h; omega) | exact Or.inl rfl | exact Or.inr rfl) (by first | omega | (intro h; omega) | exact Or.inl rfl | exact Or.inr rfl) (by first | omega | (intro h; omega) | exact Or.inl rfl | exact Or.inr rfl) (by first | omega | (intro h; omega) | exact Or.inl rfl | exact Or.inr rfl))
                      · have d_1207 := iNe c_1187
                        have l_1208 : (6 : Int32).toInt = 6 := rfl
                        refine fun I_1209 e_1210 => ?_
                        have hR_1211 : RI R I_1209 := hR_946.up0 ra (by decide) e_1210 (i_lo _) (i_hi _)
                        have hf_1212 : Fm (fun c => c = o) I0 I_1209 := hf_947.set (by first | rfl | omega | (dsimp only; omega)) e_1210
                        have t_1213 : (I_1209 o 6).toInt = (I_944 o 6).toInt := by rw [← e_1210, q_u_k (by decide)]
                        have t_1214 : (I_1209 o 7).toInt = (I_944 o 7).toInt := by rw [← e_1210, q_u_k (by decide)]
                        have t_1215 : (I_1209 o 8).toInt = (6 : Int32).toInt := by rw [← e_1210, q_u_at]
                        have t_1216 : (I_1209 o 9).toInt = (I_944 o 9).toInt := by rw [← e_1210, q_u_k (by decide)]
                        have t_1217 : (I_1209 o 3).toInt = (I_944 o 3).toInt := by rw [← e_1210, q_u_k (by decide)]
                        have t_1218 : (I_1209 o 4).toInt = (I_944 o 4).toInt := by rw [← e_1210, q_u_k (by decide)]
                        have t_1219 : (I_1209 o 35).toInt = (I_944 o 35).toInt := by rw [← e_1210, q_u_k (by decide)]
                        have t_1220 : (I_1209 o 44).toInt = (I_944 o 44).toInt := by rw [← e_1210, q_u_k (by decide)]
                        have t_1221 : (I_1209 o 45).toInt = (I_944 o 45).toInt := by rw [← e_1210, q_u_k (by decide)]
                        have t_1222 : (I_1209 o 46).toInt = (I_944 o 46).toInt := by rw [← e_1210, q_u_k (by decide)]
                        have t_1223 : (I_1209 o 47).toInt = (I_944 o 47).toInt := by rw [← e_1210, q_u_k (by decide)]
                        have t_1224 : (I_1209 o 48).toInt = (I_944 o 48).toInt := by rw [← e_1210, q_u_k (by decide)]
                        have t_1225 : (I_1209 o 49).toInt = (I_944 o 49).toInt := by rw [← e_1210, q_u_k (by decide)]
                        have t_1226 : (I_1209 o 67).toInt = (I_944 o 67).toInt := by rw [← e_1210, q_u_k (by decide)]
                        exact (hp _ _ hR_1211 hf_1212 (by first | omega | (intro h; omega) | exact Or.inl rfl | exact Or.inr rfl) (by first | omega | (intro h; omega) | exact Or.inl rfl | exact Or.inr rfl) (by intro _; omega) (by intro _; omega) (by first | omega | (intro h; omega) | exact Or.inl rfl | exact Or.inr rfl) (by first | omega | (intro h; omega) | exact Or.inl rfl | exact Or.inr rfl) (by first | omega | (intro h; omega) | exact Or.inl rfl | exact Or.inr rfl) (by first | omega | (intro h; omega) | exact Or.inl rfl | exact Or.inr rfl) (by first | omega | (intro h; omega) | exact Or.inl rfl | exact Or.inr rfl) (by first | omega | (intro h; omega) | exact Or.inl rfl | exact Or.inr rfl) (by first | omega | (intro h; omega) | exact Or.inl rfl | exact Or.inr rfl) (by first | omega | (intro h; omega) | exact Or.inl rfl | exact Or.inr rfl) (by first | omega | (intro h; omega) | exact Or.inl rfl | exact Or.inr rfl) (by first | omega | (intro h; omega) | exact Or.inl rfl | exact Or.inr rfl))
                    · have d_1227 := iNe c_1182
                      have dc := u_1179 (by omega)
                      refine fun I_1228 e_1229 => ?_
                      have hR_1230 : RI R I_1228 := hR_946.up0 ra (by decide) e_1229 (i_lo _) (i_hi _)
                      have hf_1231 : Fm (fun c => c = o) I0 I_1228 := hf_947.set (by first | rfl | omega | (dsimp only; omega)) e_1229
                      have t_1232 : (I_1228 o 6).toInt = (I_944 o 6).toInt := by rw [← e_1229, q_u_k (by decide)]
                      have t_1233 : (I_1228 o 7).toInt = (I_944 o 7).toInt := by rw [← e_1229, q_u_k (by decide)]
                      have t_1234 : (I_1228 o 8).toInt = (I_944 o 8).toInt := by rw [← e_1229, q_u_k (by decide)]
                      have t_1235 : (I_1228 o 9).toInt = (0 : Int32).toInt := by rw [← e_1229, q_u_at]
                      have t_1236 : (I_1228 o 3).toInt = (I_944 o 3).toInt := by rw [← e_1229, q_u_k (by decide)]
                      have t_1237 : (I_1228 o 4).toInt = (I_944 o 4).toInt := by rw [← e_1229, q_u_k (by decide)]
                      have t_1238 : (I_1228 o 35).toInt = (I_944 o 35).toInt := by rw [← e_1229, q_u_k (by decide)]
                      have t_1239 : (I_1228 o 44).toInt = (I_944 o 44).toInt := by rw [← e_1229, q_u_k (by decide)]
                      have t_1240 : (I_1228 o 45).toInt = (I_944 o 45).toInt := by rw [← e_1229, q_u_k (by decide)]
                      have t_1241 : (I_1228 o 46).toInt = (I_944 o 46).toInt := by rw [← e_1229, q_u_k (by decide)]
                      have t_1242 : (I_1228 o 47).toInt = (I_944 o 47).toInt := by rw [← e_1229, q_u_k (by decide)]
                      have t_1243 : (I_1228 o 48).toInt = (I_944 o 48).toInt := by rw [← e_1229, q_u_k (by decide)]
                      have t_1244 : (I_1228 o 49).toInt = (I_944 o 49).toInt := by rw [← e_1229, q_u_k (by decide)]
                      have t_1245 : (I_1228 o 67).toInt = (I_944 o 67).toInt := by rw [← e_1229, q_u_k (by decide)]
                      have g_1246 : (0 : Int) ≤ (I_1228 o 6).toInt ∧ (I_1228 o 6).toInt ≤ 1600 := hR_1230.at0 ra 6 (by decide)
                      refine fun I_1247 e_1248 => ?_
                      have hR_1249 : RI R I_1247 := hR_1230.up0 ra (by decide) e_1248 (show (0 : Int) ≤ (I_1228 o 6).toInt by omega) (show (I_1228 o 6).toInt ≤ (1601 : Int) by omega)
                      have hf_1250 : Fm (fun c => c = o) I0 I_1247 := hf_1231.set (by first | rfl | omega | (dsimp only; omega)) e_1248
                      have t_1251 : (I_1247 o 6).toInt = (I_1228 o 6).toInt := by rw [← e_1248, q_u_k (by decide)]
                      have t_1252 : (I_1247 o 7).toInt = (I_1228 o 6).toInt := by rw [← e_1248, q_u_at]
                      have t_1253 : (I_1247 o 8).toInt = (I_1228 o 8).toInt := by rw [← e_1248, q_u_k (by decide)]
                      have t_1254 : (I_1247 o 9).toInt = (I_1228 o 9).toInt := by rw [← e_1248, q_u_k (by decide)]
                      have t_1255 : (I_1247 o 3).toInt = (I_1228 o 3).toInt := by rw [← e_1248, q_u_k (by decide)]
                      have t_1256 : (I_1247 o 4).toInt = (I_1228 o 4).toInt := by rw [← e_1248, q_u_k (by decide)]
                      have t_1257 : (I_1247 o 35).toInt = (I_1228 o 35).toInt := by rw [← e_1248, q_u_k (by decide)]
                      have t_1258 : (I_1247 o 44).toInt = (I_1228 o 44).toInt := by rw [← e_1248, q_u_k (by decide)]
                      have t_1259 : (I_1247 o 45).toInt = (I_1228 o 45).toInt := by rw [← e_1248, q_u_k (by decide)]
                      have t_1260 : (I_1247 o 46).toInt = (I_1228 o 46).toInt := by rw [← e_1248, q_u_k (by decide)]
                      have t_1261 : (I_1247 o 47).toInt = (I_1228 o 47).toInt := by rw [← e_1248, q_u_k (by decide)]
                      have t_1262 : (I_1247 o 48).toInt = (I_1228 o 48).toInt := by rw [← e_1248, q_u_k (by decide)]
                      have t_1263 : (I_1247 o 49).toInt = (I_1228 o 49).toInt := by rw [← e_1248, q_u_k (by decide)]
                      have t_1264 : (I_1247 o 67).toInt = (I_1228 o 67).toInt := by rw [← e_1248, q_u_k (by decide)]
                      exact yModel_next_363 (I0 := I0) (L0 := L0) hok hw ra hq0 hp  _ hR_1249 hf_1250 (by first | omega | (intro h; omega) | exact Or.inl rfl | exact Or.inr rfl) (by first | omega | (intro h; omega) | exact Or.inl rfl | exact Or.inr rfl) (by first | exact sgLo sc (by omega) (by omega) | exact sgLo (a := I o 6) rfl (by omega) (by omega)) (by first | exact sgHi sc (by omega) (by omega) | exact sgHi (a := I o 6) rfl (by omega) (by omega)) (by first | omega | (intro h; omega) | exact Or.inl rfl | exact Or.inr rfl) (by first | omega | (intro h; omega) | exact Or.inl rfl | exact Or.inr rfl) (by first | omega | (intro h; omega) | exact Or.inl rfl | exact Or.inr rfl) (by first | omega | (intro h; omega) | exact Or.inl rfl | exact Or.inr rfl) (by first | omega | (intro h; omega) | exact Or.inl rfl | exact Or.inr rfl) (by first | omega | (intro h; omega) | exact Or.inl rfl | exact Or.inr rfl) (by first | omega | (intro h; omega) | exact Or.inl rfl | exact Or.inr rfl) (by first | omega | (intro h; omega) | exact Or.inl rfl | exact Or.inr rfl) (by first | omega | (intro h; omega) | exact Or.inl rfl | exact Or.inr rfl) (by first | omega | (intro h; omega) | exact Or.inl rfl | exact Or.inr rfl) (by first | omega | (intro h; omega) | exact Or.inl rfl | exact Or.inr rfl) (Nat.lt_succ_self _)
                  · have d_1265 := iNe c_1175
                    exact yModel_next_223 (I0 := I0) (L0 := L0) hok hw ra hq0 hp  _ hR_946 hf_947 (by first | omega | (intro h; omega) | exact Or.inl rfl | exact Or.inr rfl) (by first | omega | (intro h; omega) | exact Or.inl rfl | exact Or.inr rfl) (by first | omega | (intro h; omega) | exact Or.inl rfl | exact Or.inr rfl) (by first | omega | (intro h; omega) | exact Or.inl rfl | exact Or.inr rfl) (by first | omega | (intro h; omega) | exact Or.inl rfl | exact Or.inr rfl) (by first | omega | (intro h; omega) | exact Or.inl rfl | exact Or.inr rfl) (by first | omega | (intro h; omega) | exact Or.inl rfl | exact Or.inr rfl) (by first | omega | (intro h; omega) | exact Or.inl rfl | exact Or.inr rfl) (by first | omega | (intro h; omega) | exact Or.inl rfl | exact Or.inr rfl) (by first | omega | (intro h; omega) | exact Or.inl rfl | exact Or.inr rfl) (by first | omega | (intro h; omega) | exact Or.inl rfl | exact Or.inr rfl) (by first | omega | (intro h; omega) | exact Or.inl rfl | exact Or.inr rfl) (by first | omega | (intro h; omega) | exact Or.inl rfl | exact Or.inr rfl) (Nat.lt_succ_self _)
                · have d_1266 := iNle c_1169
                  have pr := u_1168
                  rw [hf_947 (o + 2) (by first | omega | (dsimp only; omega)), show I_944 o 3 = I0 o 3 from Int32.toInt_inj.mp (by omega), show I_944 o 6 = a1 from Int32.toInt_inj.mp (by omega)] at pr
                  have dk := pr.dig (by omega) (by omega)
                  have kl := sg_lt dk.1
                  have o1 : (1 : Int32).toInt = 1 := rfl
                  have ka : (a1 + 1).toInt = a1.toInt + (1 : Int32).toInt := tAdd (by omega) (by omega)
                  have g_1267 : (0 : Int) ≤ (I_944 o 6).toInt ∧ (I_944 o 6).toInt ≤ 1600 := hR_946.at0 ra 6 (by decide)
                  have a_1268 : ((I_944 o 6) + 1).toInt = (I_944 o 6).toInt + (1 : Int32).toInt := tAdd (by omega) (by omega)
                  refine y_Model_pointAt hok hw ra (by first | omega | (intro h; omega) | exact Or.inl rfl | exact Or.inr rfl) hR_946 (fun r_1269 u_1270 u_1271 => ⟨r_1269, I_944, L, rfl, rfl, ?_⟩)
                  have pr2 := u_1271
                  rw [hf_947 (o + 2) (by first | omega | (dsimp only; omega)), show I_944 o 3 = I0 o 3 from Int32.toInt_inj.mp (by omega), show I_944 o 6 = a1 from Int32.toInt_inj.mp (by omega)] at pr2
                  have g_1272 : (0 : Int) ≤ (I_944 o 6).toInt ∧ (I_944 o 6).toInt ≤ 1600 := hR_946.at0 ra 6 (by decide)
                  have a_1273 : ((I_944 o 6) + 1).toInt = (I_944 o 6).toInt + (1 : Int32).toInt := tAdd (by omega) (by omega)
                  refine y_Model_sign hok hw ra (by first | omega | (intro h; omega) | exact Or.inl rfl | exact Or.inr rfl) hR_946 (fun r_1274 u_1275 u_1276 => ⟨r_1274, I_944, L, rfl, rfl, ?_⟩)
                  have s1 := u_1276
                  rw [hf_947 (o + 2) (by first | omega | (dsimp only; omega)), show I_944 o 3 = I0 o 3 from Int32.toInt_inj.mp (by omega), show I_944 o 6 = a1 from Int32.toInt_inj.mp (by omega)] at s1
                  have s1 := iEq s1
                  have e48 : (48 : Int32).toInt = 48 := rfl
                  have sb : (r_1274 - 48).toInt = (r_1274).toInt - (48 : Int32).toInt := tSub (by omega) (by omega)
                  refine fun I_1277 e_1278 => ?_
                  have hR_1279 : RI R I_1277 := hR_946.up0 ra (by decide) e_1278 (i_lo _) (i_hi _)
                  have hf_1280 : Fm (fun c => c = o) I0 I_1277 := hf_947.set (by first | rfl | omega | (dsimp only; omega)) e_1278
                  have t_1281 : (I_1277 o 6).toInt = (I_944 o 6).toInt := by rw [← e_1278, q_u_k (by decide)]
                  have t_1282 : (I_1277 o 7).toInt = (I_944 o 7).toInt := by rw [← e_1278, q_u_k (by decide)]
                  have t_1283 : (I_1277 o 8).toInt = (I_944 o 8).toInt := by rw [← e_1278, q_u_k (by decide)]
                  have t_1284 : (I_1277 o 9).toInt = (r_1274 - 48).toInt := by rw [← e_1278, q_u_at]
                  have t_1285 : (I_1277 o 3).toInt = (I_944 o 3).toInt := by rw [← e_1278, q_u_k (by decide)]
                  have t_1286 : (I_1277 o 4).toInt = (I_944 o 4).toInt := by rw [← e_1278, q_u_k (by decide)]
                  have t_1287 : (I_1277 o 35).toInt = (I_944 o 35).toInt := by rw [← e_1278, q_u_k (by decide)]
                  have t_1288 : (I_1277 o 44).toInt = (I_944 o 44).toInt := by rw [← e_1278, q_u_k (by decide)]
                  have t_1289 : (I_1277 o 45).toInt = (I_944 o 45).toInt := by rw [← e_1278, q_u_k (by decide)]
                  have t_1290 : (I_1277 o 46).toInt = (I_944 o 46).toInt := by rw [← e_1278, q_u_k (by decide)]
                  have t_1291 : (I_1277 o 47).toInt = (I_944 o 47).toInt := by rw [← e_1278, q_u_k (by decide)]
                  have t_1292 : (I_1277 o 48).toInt = (I_944 o 48).toInt := by rw [← e_1278, q_u_k (by decide)]
                  have t_1293 : (I_1277 o 49).toInt = (I_944 o 49).toInt := by rw [← e_1278, q_u_k (by decide)]
                  have t_1294 : (I_1277 o 67).toInt = (I_944 o 67).toInt := by rw [← e_1278, q_u_k (by decide)]
                  have l_1295 : (2 : Int32).toInt = 2 := rfl
                  refine ⟨fun c_1296 => ?_, fun c_1296 => ?_⟩
                  · have d_1297 := iNe c_1296
                    unfold fModel_next_196
                    have g_1298 : (0 : Int) ≤ (I_1277 o 6).toInt ∧ (I_1277 o 6).toInt ≤ 1600 := hR_1279.at0 ra 6 (by decide)
                    have a_1299 : ((I_1277 o 6) + 1).toInt = (I_1277 o 6).toInt + (1 : Int32).toInt := tAdd (by omega) (by omega)
                    have a_1300 : (((I_1277 o 6) + 1) + r_1269).toInt = ((I_1277 o 6) + 1).toInt + r_1269.toInt := tAdd (by omega) (by omega)
                    refine fun I_1301 e_1302 => ?_
                    have hR_1303 : RI R I_1301 := hR_1279.up0 ra (by decide) e_1302 (show (0 : Int) ≤ (((I_1277 o 6) + 1) + r_1269).toInt by omega) (show (((I_1277 o 6) + 1) + r_1269).toInt ≤ (1601 : Int) by omega)
                    have hf_1304 : Fm (fun c => c = o) I0 I_1301 := hf_1280.set (by first | rfl | omega | (dsimp only; omega)) e_1302
                    have t_1305 : (I_1301 o 6).toInt = (I_1277 o 6).toInt := by rw [← e_1302, q_u_k (by decide)]
                    have t_1306 : (I_1301 o 7).toInt = (((I_1277 o 6) + 1) + r_1269).toInt := by rw [← e_1302, q_u_at]
                    have t_1307 : (I_1301 o 8).toInt = (I_1277 o 8).toInt := by rw [← e_1302, q_u_k (by decide)]
                    have t_1308 : (I_1301 o 9).toInt = (I_1277 o 9).toInt := by rw [← e_1302, q_u_k (by decide)]
                    have t_1309 : (I_1301 o 3).toInt = (I_1277 o 3).toInt := by rw [← e_1302, q_u_k (by decide)]
                    have t_1310 : (I_1301 o 4).toInt = (I_1277 o 4).toInt := by rw [← e_1302, q_u_k (by decide)]
                    have t_1311 : (I_1301 o 35).toInt = (I_1277 o 35).toInt := by rw [← e_1302, q_u_k (by decide)]
                    have t_1312 : (I_1301 o 44).toInt = (I_1277 o 44).toInt := by rw [← e_1302, q_u_k (by decide)]
                    have t_1313 : (I_1301 o 45).toInt = (I_1277 o 45).toInt := by rw [← e_1302, q_u_k (by decide)]
                    have t_1314 : (I_1301 o 46).toInt = (I_1277 o 46).toInt := by rw [← e_1302, q_u_k (by decide)]
                    have t_1315 : (I_1301 o 47).toInt = (I_1277 o 47).toInt := by rw [← e_1302, q_u_k (by decide)]
                    have t_1316 : (I_1301 o 48).toInt = (I_1277 o 48).toInt := by rw [← e_1302, q_u_k (by decide)]
                    have t_1317 : (I_1301 o 49).toInt = (I_1277 o 49).toInt := by rw [← e_1302, q_u_k (by decide)]
                    have t_1318 : (I_1301 o 67).toInt = (I_1277 o 67).toInt := by rw [← e_1302, q_u_k (by decide)]
                    have l_1319 : (5 : Int32).toInt = 5 := rfl
                    refine fun I_1320 e_1321 => ?_
                    have hR_1322 : RI R I_1320 := hR_1303.up0 ra (by decide) e_1321 (i_lo _) (i_hi _)
                    have hf_1323 : Fm (fun c => c = o) I0 I_1320 := hf_1304.set (by first | rfl | omega | (dsimp only; omega)) e_1321
                    have t_1324 : (I_1320 o 6).toInt = (I_1301 o 6).toInt := by rw [← e_1321, q_u_k (by decide)]
                    have t_1325 : (I_1320 o 7).toInt = (I_1301 o 7).toInt := by rw [← e_1321, q_u_k (by decide)]
                    have t_1326 : (I_1320 o 8).toInt = (5 : Int32).toInt := by rw [← e_1321, q_u_at]
                    have t_1327 : (I_1320 o 9).toInt = (I_1301 o 9).toInt := by rw [← e_1321, q_u_k (by decide)]
                    have t_1328 : (I_1320 o 3).toInt = (I_1301 o 3).toInt := by rw [← e_1321, q_u_k (by decide)]
                    have t_1329 : (I_1320 o 4).toInt = (I_1301 o 4).toInt := by rw [← e_1321, q_u_k (by decide)]
                    have t_1330 : (I_1320 o 35).toInt = (I_1301 o 35).toInt := by rw [← e_1321, q_u_k (by decide)]
                    have t_1331 : (I_1320 o 44).toInt = (I_1301 o 44).toInt := by rw [← e_1321, q_u_k (by decide)]
                    have t_1332 : (I_1320 o 45).toInt = (I_1301 o 45).toInt := by rw [← e_1321, q_u_k (by decide)]
                    have t_1333 : (I_1320 o 46).toInt = (I_1301 o 46).toInt := by rw [← e_1321, q_u_k (by decide)]
                    have t_1334 : (I_1320 o 47).toInt = (I_1301 o 47).toInt := by rw [← e_1321, q_u_k (by decide)]
                    have t_1335 : (I_1320 o 48).toInt = (I_1301 o 48).toInt := by rw [← e_1321, q_u_k (by decide)]
                    have t_1336 : (I_1320 o 49).toInt = (I_1301 o 49).toInt := by rw [← e_1321, q_u_k (by decide)]
                    have t_1337 : (I_1320 o 67).toInt = (I_1301 o 67).toInt := by rw [← e_1321, q_u_k (by decide)]
                    exact (hp _ _ hR_1322 hf_1323 (by first | omega | (intro h; omega) | exact Or.inl rfl | exact Or.inr rfl) (by first | omega | (intro h; omega) | exact Or.inl rfl | exact Or.inr rfl) (by intro _; omega) (by intro _; omega) (by first | omega | (intro h; omega) | exact Or.inl rfl | exact Or.inr rfl) (by first | omega | (intro h; omega) | exact Or.inl rfl | exact Or.inr rfl) (by first | omega | (intro h; omega) | exact Or.inl rfl | exact Or.inr rfl) (by first | omega | (intro h; omega) | exact Or.inl rfl | exact Or.inr rfl) (by first | omega | (intro h; omega) | exact Or.inl rfl | exact Or.inr rfl) (by first | omega | (intro h; omega) | exact Or.inl rfl | exact Or.inr rfl) (by first | omega | (intro h; omega) | exact Or.inl rfl | exact Or.inr rfl) (by first | omega | (intro h; omega) | exact Or.inl rfl | exact Or.inr rfl) (by first | omega | (intro h; omega) | exact Or.inl rfl | exact Or.inr rfl) (by first | omega | (intro h; omega) | exact Or.inl rfl | exact Or.inr rfl))
                  · have d_1338 := iEq c_1296
                    have tw := pr2.two (by omega)
                    have kl2 := sg_lt tw.2.2.1
                    have ka2 : (a1 + 1 + 1).toInt = (a1 + 1).toInt + (1 : Int32).toInt := tAdd (by omega) (by omega)
                    have g_1339 : (0 : Int) ≤ (I_1277 o 6).toInt ∧ (I_1277 o 6).toInt ≤ 1600 := hR_1279.at0 ra 6 (by decide)
                    have a_1340 : ((I_1277 o 6) + 2).toInt = (I_1277 o 6).toInt + (2 : Int32).toInt := tAdd (by omega) (by omega)
                    refine y_Model_sign hok hw ra (by first | omega | (intro h; omega) | exact Or.inl rfl | exact Or.inr rfl) hR_1279 (fun r_1341 u_1342 u_1343 => ⟨r_1341, I_1277, L, rfl, rfl, ?_⟩)
                    have s2 := u_1343
                    rw [hf_1280 (o + 2) (by first | omega | (dsimp only; omega)), show I_1277 o 3 = I0 o 3 from Int32.toInt_inj.mp (by omega), show I_1277 o 6 = a1 from Int32.toInt_inj.mp (by omega), show a1 + 2 = a1 + 1 + 1 by rw [Int32.add_assoc]; rfl] at s2
                    have s2 := iEq s2
                    have nn := mul10 (v := I_1277 o 9) (c := r_1341) (by omega) (by omega) (by omega) (by omega)
                    refine fun I_1344 e_1345 => ?_
                    have hR_1346 : RI R I_1344 := hR_1279.up0 ra (by decide) e_1345 (i_lo _) (i_hi _)
                    have hf_1347 : Fm (fun c => c = o) I0 I_1344 := hf_1280.set (by first | rfl | omega | (dsimp only; omega)) e_1345
                    have t_1348 : (I_1344 o 6).toInt = (I_1277 o 6).toInt := by rw [← e_1345, q_u_k (by decide)]
                    have t_1349 : (I_1344 o 7).toInt = (I_1277 o 7).toInt := by rw [← e_1345, q_u_k (by decide)]
                    have t_1350 : (I_1344 o 8).toInt = (I_1277 o 8).toInt := by rw [← e_1345, q_u_k (by decide)]
                    have t_1351 : (I_1344 o 9).toInt = (((10 * (I_1277 o 9)) + r_1341) - 48).toInt := by rw [← e_1345, q_u_at]
                    have t_1352 : (I_1344 o 3).toInt = (I_1277 o 3).toInt := by rw [← e_1345, q_u_k (by decide)]
                    have t_1353 : (I_1344 o 4).toInt = (I_1277 o 4).toInt := by rw [← e_1345, q_u_k (by decide)]
                    have t_1354 : (I_1344 o 35).toInt = (I_1277 o 35).toInt := by rw [← e_1345, q_u_k (by decide)]
                    have t_1355 : (I_1344 o 44).toInt = (I_1277 o 44).toInt := by rw [← e_1345, q_u_k (by decide)]
                    have t_1356 : (I_1344 o 45).toInt = (I_1277 o 45).toInt := by rw [← e_1345, q_u_k (by decide)]
                    have t_1357 : (I_1344 o 46).toInt = (I_1277 o 46).toInt := by rw [← e_1345, q_u_k (by decide)]
                    have t_1358 : (I_1344 o 47).toInt = (I_1277 o 47).toInt := by rw [← e_1345, q_u_k (by decide)]
                    have t_1359 : (I_1344 o 48).toInt = (I_1277 o 48).toInt := by rw [← e_1345, q_u_k (by decide)]
                    have t_1360 : (I_1344 o 49).toInt = (I_1277 o 49).toInt := by rw [← e_1345, q_u_k (by decide)]
                    have t_1361 : (I_1344 o 67).toInt = (I_1277 o 67).toInt := by rw [← e_1345, q_u_k (by decide)]
                    unfold fModel_next_196
                    have g_1362 : (0 : Int) ≤ (I_1344 o 6).toInt ∧ (I_1344 o 6).toInt ≤ 1600 := hR_1346.at0 ra 6 (by decide)
                    have a_1363 : ((I_1344 o 6) + 1).toInt = (I_1344 o 6).toInt + (1 : Int32).toInt := tAdd (by omega) (by omega)
                    have a_1364 : (((I_1344 o 6) + 1) + r_1269).toInt = ((I_1344 o 6) + 1).toInt + r_1269.toInt := tAdd (by omega) (by omega)
                    refine fun I_1365 e_1366 => ?_
                    have hR_1367 : RI R I_1365 := hR_1346.up0 ra (by decide) e_1366 (show (0 : Int) ≤ (((I_1344 o 6) + 1) + r_1269).toInt by omega) (show (((I_1344 o 6) + 1) + r_1269).toInt ≤ (1601 : Int) by omega)
                    have hf_1368 : Fm (fun c => c = o) I0 I_1365 := hf_1347.set (by first | rfl | omega | (dsimp only; omega)) e_1366
                    have t_1369 : (I_1365 o 6).toInt = (I_1344 o 6).toInt := by rw [← e_1366, q_u_k (by decide)]
                    have t_1370 : (I_1365 o 7).toInt = (((I_1344 o 6) + 1) + r_1269).toInt := by rw [← e_1366, q_u_at]
                    have t_1371 : (I_1365 o 8).toInt = (I_1344 o 8).toInt := by rw [← e_1366, q_u_k (by decide)]
                    have t_1372 : (I_1365 o 9).toInt = (I_1344 o 9).toInt := by rw [← e_1366, q_u_k (by decide)]
                    have t_1373 : (I_1365 o 3).toInt = (I_1344 o 3).toInt := by rw [← e_1366, q_u_k (by decide)]
                    have t_1374 : (I_1365 o 4).toInt = (I_1344 o 4).toInt := by rw [← e_1366, q_u_k (by decide)]
                    have t_1375 : (I_1365 o 35).toInt = (I_1344 o 35).toInt := by rw [← e_1366, q_u_k (by decide)]
                    have t_1376 : (I_1365 o 44).toInt = (I_1344 o 44).toInt := by rw [← e_1366, q_u_k (by decide)]
                    have t_1377 : (I_1365 o 45).toInt = (I_1344 o 45).toInt := by rw [← e_1366, q_u_k (by decide)]
                    have t_1378 : (I_1365 o 46).toInt = (I_1344 o 46).toInt := by rw [← e_1366, q_u_k (by decide)]
                    have t_1379 : (I_1365 o 47).toInt = (I_1344 o 47).toInt := by rw [← e_1366, q_u_k (by decide)]
                    have t_1380 : (I_1365 o 48).toInt = (I_1344 o 48).toInt := by rw [← e_1366, q_u_k (by decide)]
                    have t_1381 : (I_1365 o 49).toInt = (I_1344 o 49).toInt := by rw [← e_1366, q_u_k (by decide)]
                    have t_1382 : (I_1365 o 67).toInt = (I_1344 o 67).toInt := by rw [← e_1366, q_u_k (by decide)]
                    have l_1383 : (5 : Int32).toInt = 5 := rfl
                    refine fun I_1384 e_1385 => ?_
                    have hR_1386 : RI R I_1384 := hR_1367.up0 ra (by decide) e_1385 (i_lo _) (i_hi _)
                    have hf_1387 : Fm (fun c => c = o) I0 I_1384 := hf_1368.set (by first | rfl | omega | (dsimp only; omega)) e_1385
                    have t_1388 : (I_1384 o 6).toInt = (I_1365 o 6).toInt := by rw [← e_1385, q_u_k (by decide)]
                    have t_1389 : (I_1384 o 7).toInt = (I_1365 o 7).toInt := by rw [← e_1385, q_u_k (by decide)]
                    have t_1390 : (I_1384 o 8).toInt = (5 : Int32).toInt := by rw [← e_1385, q_u_at]
                    have t_1391 : (I_1384 o 9).toInt = (I_1365 o 9).toInt := by rw [← e_1385, q_u_k (by decide)]
                    have t_1392 : (I_1384 o 3).toInt = (I_1365 o 3).toInt := by rw [← e_1385, q_u_k (by decide)]
                    have t_1393 : (I_1384 o 4).toInt = (I_1365 o 4).toInt := by rw [← e_1385, q_u_k (by decide)]
                    have t_1394 : (I_1384 o 35).toInt = (I_1365 o 35).toInt := by rw [← e_1385, q_u_k (by decide)]
                    have t_1395 : (I_1384 o 44).toInt = (I_1365 o 44).toInt := by rw [← e_1385, q_u_k (by decide)]
                    have t_1396 : (I_1384 o 45).toInt = (I_1365 o 45).toInt := by rw [← e_1385, q_u_k (by decide)]
                    have t_1397 : (I_1384 o 46).toInt = (I_1365 o 46).toInt := by rw [← e_1385, q_u_k (by decide)]
                    have t_1398 : (I_1384 o 47).toInt = (I_1365 o 47).toInt := by rw [← e_1385, q_u_k (by decide)]
                    have t_1399 : (I_1384 o 48).toInt = (I_1365 o 48).toInt := by rw [← e_1385, q_u_k (by decide)]
                    have t_1400 : (I_1384 o 49).toInt = (I_1365 o 49).toInt := by rw [← e_1385, q_u_k (by decide)]
                    have t_1401 : (I_1384 o 67).toInt = (I_1365 o 67).toInt := by rw [← e_1385, q_u_k (by decide)]
                    exact (hp _ _ hR_1386 hf_1387 (by first | omega | (intro h; omega) | exact Or.inl rfl | exact Or.inr rfl) (by first | omega | (intro h; omega) | exact Or.inl rfl | exact Or.inr rfl) (by intro _; omega) (by intro _; omega) (by first | omega | (intro h; omega) | exact Or.inl rfl | exact Or.inr rfl) (by first | omega | (intro h; omega) | exact Or.inl rfl | exact Or.inr rfl) (by first | omega | (intro h; omega) | exact Or.inl rfl | exact Or.inr rfl) (by first | omega | (intro h; omega) | exact Or.inl rfl | exact Or.inr rfl) (by first | omega | (intro h; omega) | exact Or.inl rfl | exact Or.inr rfl) (by first | omega | (intro h; omega) | exact Or.inl rfl | exact Or.inr rfl) (by first | omega | (intro h; omega) | exact Or.inl rfl | exact Or.inr rfl) (by first | omega | (intro h; omega) | exact Or.inl rfl | exact Or.inr rfl) (by first | omega | (intro h; omega) | exact Or.inl rfl | exact Or.inr rfl) (by first | omega | (intro h; omega) | exact Or.inl rfl | exact Or.inr rfl))
          · have d_1402 := iNlt c_964
            have l_1403 : (0 : Int32).toInt = 0 := rfl
            refine fun I_1404 e_1405 => ?_
            have hR_1406 : RI R I_1404 := hR_946.up0 ra (by decide) e_1405 (i_lo _) (i_hi _)
            have hf_1407 : Fm (fun c => c = o) I0 I_1404 := hf_947.set (by first | rfl | omega | (dsimp only; omega)) e_1405
            have t_1408 : (I_1404 o 6).toInt = (I_944 o 6).toInt := by rw [← e_1405, q_u_k (by decide)]
            have t_1409 : (I_1404 o 7).toInt = (I_944 o 7).toInt := by rw [← e_1405, q_u_k (by decide)]
            have t_1410 : (I_1404 o 8).toInt = (0 : Int32).toInt := by rw [← e_1405, q_u_at]
            have t_1411 : (I_1404 o 9).toInt = (I_944 o 9).toInt := by rw [← e_1405, q_u_k (by decide)]
            have t_1412 : (I_1404 o 3).toInt = (I_944 o 3).toInt := by rw [← e_1405, q_u_k (by decide)]
            have t_1413 : (I_1404 o 4).toInt = (I_944 o 4).toInt := by rw [← e_1405, q_u_k (by decide)]
            have t_1414 : (I_1404 o 35).toInt = (I_944 o 35).toInt := by rw [← e_1405, q_u_k (by decide)]
            have t_1415 : (I_1404 o 44).toInt = (I_944 o 44).toInt := by rw [← e_1405, q_u_k (by decide)]
            have t_1416 : (I_1404 o 45).toInt = (I_944 o 45).toInt := by rw [← e_1405, q_u_k (by decide)]
            have t_1417 : (I_1404 o 46).toInt = (I_944 o 46).toInt := by rw [← e_1405, q_u_k (by decide)]
            have t_1418 : (I_1404 o 47).toInt = (I_944 o 47).toInt := by rw [← e_1405, q_u_k (by decide)]
            have t_1419 : (I_1404 o 48).toInt = (I_944 o 48).toInt := by rw [← e_1405, q_u_k (by decide)]
            have t_1420 : (I_1404 o 49).toInt = (I_944 o 49).toInt := by rw [← e_1405, q_u_k (by decide)]
            have t_1421 : (I_1404 o 67).toInt = (I_944 o 67).toInt := by rw [← e_1405, q_u_k (by decide)]
            have g_1422 : (0 : Int) ≤ (I_1404 o 3).toInt ∧ (I_1404 o 3).toInt ≤ 1600 := hR_1406.at0 ra 3 (by decide)
            refine fun I_1423 e_1424 => ?_
            have hR_1425 : RI R I_1423 := hR_1406.up0 ra (by decide) e_1424 (show (0 : Int) ≤ (I_1404 o 3).toInt by omega) (show (I_1404 o 3).toInt ≤ (1600 : Int) by omega)
            have hf_1426 : Fm (fun c => c = o) I0 I_1423 := hf_1407.set (by first | rfl | omega | (dsimp only; omega)) e_1424
            have t_1427 : (I_1423 o 6).toInt = (I_1404 o 3).toInt := by rw [← e_1424, q_u_at]
            have t_1428 : (I_1423 o 7).toInt = (I_1404 o 7).toInt := by rw [← e_1424, q_u_k (by decide)]
            have t_1429 : (I_1423 o 8).toInt = (I_1404 o 8).toInt := by rw [← e_1424, q_u_k (by decide)]
            have t_1430 : (I_1423 o 9).toInt = (I_1404 o 9).toInt := by rw [← e_1424, q_u_k (by decide)]
            have t_1431 : (I_1423 o 3).toInt = (I_1404 o 3).toInt := by rw [← e_1424, q_u_k (by decide)]
            have t_1432 : (I_1423 o 4).toInt = (I_1404 o 4).toInt := by rw [← e_1424, q_u_k (by decide)]
            have t_1433 : (I_1423 o 35).toInt = (I_1404 o 35).toInt := by rw [← e_1424, q_u_k (by decide)]
            have t_1434 : (I_1423 o 44).toInt = (I_1404 o 44).toInt := by rw [← e_1424, q_u_k (by decide)]
            have t_1435 : (I_1423 o 45).toInt = (I_1404 o 45).toInt := by rw [← e_1424, q_u_k (by decide)]
            have t_1436 : (I_1423 o 46).toInt = (I_1404 o 46).toInt := by rw [← e_1424, q_u_k (by decide)]
            have t_1437 : (I_1423 o 47).toInt = (I_1404 o 47).toInt := by rw [← e_1424, q_u_k (by decide)]
            have t_1438 : (I_1423 o 48).toInt = (I_1404 o 48).toInt := by rw [← e_1424, q_u_k (by decide)]
            have t_1439 : (I_1423 o 49).toInt = (I_1404 o 49).toInt := by rw [← e_1424, q_u_k (by decide)]
            have t_1440 : (I_1423 o 67).toInt = (I_1404 o 67).toInt := by rw [← e_1424, q_u_k (by decide)]
            have g_1441 : (0 : Int) ≤ (I_1423 o 3).toInt ∧ (I_1423 o 3).toInt ≤ 1600 := hR_1425.at0 ra 3 (by decide)
            refine fun I_1442 e_1443 => ?_
            have hR_1444 : RI R I_1442 := hR_1425.up0 ra (by decide) e_1443 (show (0 : Int) ≤ (I_1423 o 3).toInt by omega) (show (I_1423 o 3).toInt ≤ (1601 : Int) by omega)
            have hf_1445 : Fm (fun c => c = o) I0 I_1442 := hf_1426.set (by first | rfl | omega | (dsimp only; omega)) e_1443
            have t_1446 : (I_1442 o 6).toInt = (I_1423 o 6).toInt := by rw [← e_1443, q_u_k (by decide)]
            have t_1447 : (I_1442 o 7).toInt = (I_1423 o 3).toInt := by rw [← e_1443, q_u_at]
            have t_1448 : (I_1442 o 8).toInt = (I_1423 o 8).toInt := by rw [← e_1443, q_u_k (by decide)]
            have t_1449 : (I_1442 o 9).toInt = (I_1423 o 9).toInt := by rw [← e_1443, q_u_k (by decide)]
            have t_1450 : (I_1442 o 3).toInt = (I_1423 o 3).toInt := by rw [← e_1443, q_u_k (by decide)]
            have t_1451 : (I_1442 o 4).toInt = (I_1423 o 4).toInt := by rw [← e_1443, q_u_k (by decide)]
            have t_1452 : (I_1442 o 35).toInt = (I_1423 o 35).toInt := by rw [← e_1443, q_u_k (by decide)]
            have t_1453 : (I_1442 o 44).toInt = (I_1423 o 44).toInt := by rw [← e_1443, q_u_k (by decide)]
            have t_1454 : (I_1442 o 45).toInt = (I_1423 o 45).toInt := by rw [← e_1443, q_u_k (by decide)]
            have t_1455 : (I_1442 o 46).toInt = (I_1423 o 46).toInt := by rw [← e_1443, q_u_k (by decide)]
            have t_1456 : (I_1442 o 47).toInt = (I_1423 o 47).toInt := by rw [← e_1443, q_u_k (by decide)]
            have t_1457 : (I_1442 o 48).toInt = (I_1423 o 48).toInt := by rw [← e_1443, q_u_k (by decide)]
            have t_1458 : (I_1442 o 49).toInt = (I_1423 o 49).toInt := by rw [← e_1443, q_u_k (by decide)]
            have t_1459 : (I_1442 o 67).toInt = (I_1423 o 67).toInt := by rw [← e_1443, q_u_k (by decide)]
            exact (hp _ _ hR_1444 hf_1445 (by first | omega | (intro h; omega) | exact Or.inl rfl | exact Or.inr rfl) (by first | omega | (intro h; omega) | exact Or.inl rfl | exact Or.inr rfl) (by intro _; omega) (by intro _; omega) (by first | omega | (intro h; omega) | exact Or.inl rfl | exact Or.inr rfl) (by first | omega | (intro h; omega) | exact Or.inl rfl | exact Or.inr rfl) (by first | omega | (intro h; omega) | exact Or.inl rfl | exact Or.inr rfl) (by first | omega | (intro h; omega) | exact Or.inl rfl | exact Or.inr rfl) (by first | omega | (intro h; omega) | exact Or.inl rfl | exact Or.inr rfl) (by first | omega | (intro h; omega) | exact Or.inl rfl | exact Or.inr rfl) (by first | omega | (intro h; omega) | exact Or.inl rfl | exact Or.inr rfl) (by first | omega | (intro h; omega) | exact Or.inl rfl | exact Or.inr rfl) (by first | omega | (intro h; omega) | exact Or.inl rfl | exact Or.inr rfl) (by first | omega | (intro h; omega) | exact Or.inl rfl | exact Or.inr rfl))
        · have d_1460 := iEq c_935
          unfold fModel_next_45
          have g_1461 : (0 : Int) ≤ (I o 6).toInt ∧ (I o 6).toInt ≤ 1600 := hR.at0 ra 6 (by decide)
          have l_1462 : (1 : Int32).toInt = 1 := rfl
          have a_1463 : ((I o 6) + 1).toInt = (I o 6).toInt + (1 : Int32).toInt := tAdd (by omega) (by omega)
          refine fun I_1464 e_1465 => ?_
          have hR_1466 : RI R I_1464 := hR.up0 ra (by decide) e_1465 (show (0 : Int) ≤ ((I o 6) + 1).toInt by omega) (show ((I o 6) + 1).toInt ≤ (1600 : Int) by omega)
          have hf_1467 : Fm (fun c => c = o) I0 I_1464 := hf.set (by first | rfl | omega | (dsimp only; omega)) e_1465
          have t_1468 : (I_1464 o 6).toInt = ((I o 6) + 1).toInt := by rw [← e_1465, q_u_at]
          have t_1469 : (I_1464 o 7).toInt = (I o 7).toInt := by rw [← e_1465, q_u_k (by decide)]
          have t_1470 : (I_1464 o 8).toInt = (I o 8).toInt := by rw [← e_1465, q_u_k (by decide)]
          have t_1471 : (I_1464 o 9).toInt = (I o 9).toInt := by rw [← e_1465, q_u_k (by decide)]
          have t_1472 : (I_1464 o 3).toInt = (I o 3).toInt := by rw [← e_1465, q_u_k (by decide)]
          have t_1473 : (I_1464 o 4).toInt = (I o 4).toInt := by rw [← e_1465, q_u_k (by decide)]
          have t_1474 : (I_1464 o 35).toInt = (I o 35).toInt := by rw [← e_1465, q_u_k (by decide)]
          have t_1475 : (I_1464 o 44).toInt = (I o 44).toInt := by rw [← e_1465, q_u_k (by decide)]
          have t_1476 : (I_1464 o 45).toInt = (I o 45).toInt := by rw [← e_1465, q_u_k (by decide)]
          have t_1477 : (I_1464 o 46).toInt = (I o 46).toInt := by rw [← e_1465, q_u_k (by decide)]
          have t_1478 : (I_1464 o 47).toInt = (I o 47).toInt := by rw [← e_1465, q_u_k (by decide)]
          have t_1479 : (I_1464 o 48).toInt = (I o 48).toInt := by rw [← e_1465, q_u_k (by decide)]
          have t_1480 : (I_1464 o 49).toInt = (I o 49).toInt := by rw [← e_1465, q_u_k (by decide)]
          have t_1481 : (I_1464 o 67).toInt = (I o 67).toInt := by rw [← e_1465, q_u_k (by decide)]
          exact ih hR_1466 hf_1467 (by first | omega | (intro h; omega) | exact Or.inl rfl | exact Or.inr rfl) (by first | omega | (intro h; omega) | exact Or.inl rfl | exact Or.inr rfl) (by first | omega | (intro h; omega) | exact Or.inl rfl | exact Or.inr rfl) (by first | omega | (intro h; omega) | exact Or.inl rfl | exact Or.inr rfl) (by first | omega | (intro h; omega) | exact Or.inl rfl | exact Or.inr rfl) (by first | omega | (intro h; omega) | exact Or.inl rfl | exact Or.inr rfl) (by first | omega | (intro h; omega) | exact Or.inl rfl | exact Or.inr rfl) (by first | omega | (intro h; omega) | exact Or.inl rfl | exact Or.inr rfl) (by first | omega | (intro h; omega) | exact Or.inl rfl | exact Or.inr rfl) (by first | omega | (intro h; omega) | exact Or.inl rfl | exact Or.inr rfl) (by first | omega | (intro h; omega) | exact Or.inl rfl | exact Or.inr rfl) (by first | omega | (intro h; omega) | exact Or.inl rfl | exact Or.inr rfl) (by first | omega | (intro h; omega) | exact Or.inl rfl | exact Or.inr rfl) (by first | omega | (intro h; omega) | exact Or.inl rfl | exact Or.inr rfl) (by omega)
set_option maxHeartbeats 4000000 in
set_option maxRecDepth 20000 in
theorem y_Model_next {D : va_G} {cA : FieldType → ClassId} {b : Nat} {E : State → Prop} {R : qRg} {o n : Nat} {sh : Nat → qC} {Rf : Nat → Nat → Option Nat} {I0 : Nat → Nat → Int32} {L0 : Nat → Nat → Int64} {post : Option Value → qS → Prop} (hok : q_ok (qGG D cA b E)) (hw : WfModel (qGG D cA b E) n sh Rf o) (ra : RAModel R o) (hq0 : (I0 o 7).toInt ≤ (I0 o 3).toInt) (hR : RI R I0) (hp : ∀ (I' : Nat → Nat → Int32) (L' : Nat → Nat → Int64), RI R I' → Fm (fun c => c = o) I0 I' → ((I' o 7).toInt ≤ (I' o 3).toInt) → ((I0 o 7).toInt ≤ (I' o 7).toInt) → (Im ((I' o 8).toInt ≠ 0) ((I0 o 7).toInt < (I' o 7).toInt)) → (Im ((I' o 8).toInt = 5) (0 ≤ (I' o 9).toInt ∧ (I' o 9).toInt ≤ 15)) → ((I' o 3).toInt = (I0 o 3).toInt) → ((I' o 4).toInt = (I0 o 4).toInt) → ((I' o 35).toInt = (I0 o 35).toInt) → ((I' o 44).toInt = (I0 o 44).toInt) → ((I' o 45).toInt = (I0 o 45).toInt) → ((I' o 46).toInt = (I0 o 46).toInt) → ((I' o 47).toInt = (I0 o 47).toInt) → ((I' o 48).toInt = (I0 o 48).toInt) → ((I' o 49).toInt = (I0 o 49).toInt) → ((I' o 67).toInt = (I0 o 67).toInt) → post none (n, sh, Rf, I', L')) : Ev (qGG D cA b E) mModel_next 2 (0, 0) 0 (lv_args 0 [.ref o]) [] (n, sh, Rf, I0, L0) post := by
  have hf : Fm (fun c => c = o) I0 I0 := Fm.rf
  have g_1482 : (0 : Int) ≤ (I0 o 6).toInt ∧ (I0 o 6).toInt ≤ 1600 := hR.at0 ra 6 (by decide)
  have g_1483 : (0 : Int) ≤ (I0 o 7).toInt ∧ (I0 o 7).toInt ≤ 1601 := hR.at0 ra 7 (by decide)
  have g_1484 : (0 : Int) ≤ (I0 o 3).toInt ∧ (I0 o 3).toInt ≤ 1600 := hR.at0 ra 3 (by decide)
  have g_1485 : (0 : Int) ≤ (I0 o 35).toInt ∧ (I0 o 35).toInt ≤ 1 := hR.at0 ra 35 (by decide)
  have g_1486 : (0 : Int) ≤ (I0 o 67).toInt ∧ (I0 o 67).toInt ≤ 40 := hR.at0 ra 67 (by decide)
  refine sModel_next_0 o n sh Rf I0 L0 post  hok hw ?_
  unfold fModel_next_0
  have g_1487 : (0 : Int) ≤ (I0 o 7).toInt ∧ (I0 o 7).toInt ≤ 1601 := hR.at0 ra 7 (by decide)
  refine fun I_1488 e_1489 => ?_
  have hR_1490 : RI R I_1488 := hR.up0 ra (by decide) e_1489 (show (0 : Int) ≤ (I0 o 7).toInt by omega) (show (I0 o 7).toInt ≤ (1600 : Int) by omega)
  have hf_1491 : Fm (fun c => c = o) I0 I_1488 := hf.set (by first | rfl | omega | (dsimp only; omega)) e_1489
  have t_1492 : (I_1488 o 6).toInt = (I0 o 7).toInt := by rw [← e_1489, q_u_at]
  have t_1493 : (I_1488 o 7).toInt = (I0 o 7).toInt := by rw [← e_1489, q_u_k (by decide)]
  have t_1494 : (I_1488 o 8).toInt = (I0 o 8).toInt := by rw [← e_1489, q_u_k (by decide)]
  have t_1495 : (I_1488 o 9).toInt = (I0 o 9).toInt := by rw [← e_1489, q_u_k (by decide)]
  have t_1496 : (I_1488 o 3).toInt = (I0 o 3).toInt := by rw [← e_1489, q_u_k (by decide)]
  have t_1497 : (I_1488 o 4).toInt = (I0 o 4).toInt := by rw [← e_1489, q_u_k (by decide)]
  have t_1498 : (I_1488 o 35).toInt = (I0 o 35).toInt := by rw [← e_1489, q_u_k (by decide)]
  have t_1499 : (I_1488 o 44).toInt = (I0 o 44).toInt := by rw [← e_1489, q_u_k (by decide)]
  have t_1500 : (I_1488 o 45).toInt = (I0 o 45).toInt := by rw [← e_1489, q_u_k (by decide)]
  have t_1501 : (I_1488 o 46).toInt = (I0 o 46).toInt := by rw [← e_1489, q_u_k (by decide)]
  have t_1502 : (I_1488 o 47).toInt = (I0 o 47).toInt := by rw [← e_1489, q_u_k (by decide)]
  have t_1503 : (I_1488 o 48).toInt = (I0 o 48).toInt := by rw [← e_1489, q_u_k (by decide)]
  have t_1504 : (I_1488 o 49).toInt = (I0 o 49).toInt := by rw [← e_1489, q_u_k (by decide)]
  have t_1505 : (I_1488 o 67).toInt = (I0 o 67).toInt := by rw [← e_1489, q_u_k (by decide)]
  exact yModel_next_8 (I0 := I0) (L0 := L0) hok hw ra hq0 hp  _ hR_1490 hf_1491 (by first | omega | (intro h; omega) | exact Or.inl rfl | exact Or.inr rfl) (by first | omega | (intro h; omega) | exact Or.inl rfl | exact Or.inr rfl) (by first | omega | (intro h; omega) | exact Or.inl rfl | exact Or.inr rfl) (by first | omega | (intro h; omega) | exact Or.inl rfl | exact Or.inr rfl) (by first | omega | (intro h; omega) | exact Or.inl rfl | exact Or.inr rfl) (by first | omega | (intro h; omega) | exact Or.inl rfl | exact Or.inr rfl) (by first | omega | (intro h; omega) | exact Or.inl rfl | exact Or.inr rfl) (by first | omega | (intro h; omega) | exact Or.inl rfl | exact Or.inr rfl) (by first | omega | (intro h; omega) | exact Or.inl rfl | exact Or.inr rfl) (by first | omega | (intro h; omega) | exact Or.inl rfl | exact Or.inr rfl) (by first | omega | (intro h; omega) | exact Or.inl rfl | exact Or.inr rfl) (by first | omega | (intro h; omega) | exact Or.inl rfl | exact Or.inr rfl) (by first | omega | (intro h; omega) | exact Or.inl rfl | exact Or.inr rfl) (by first | omega | (intro h; omega) | exact Or.inl rfl | exact Or.inr rfl) (Nat.lt_succ_self _)
set_option maxHeartbeats 4000000 in
set_option maxRecDepth 20000 in
theorem y_Model_fails {D : va_G} {cA : FieldType → ClassId} {b : Nat} {E : State → Prop} {R : qRg} {o n : Nat} {sh : Nat → qC} {Rf : Nat → Nat → Option Nat} {I0 : Nat → Nat → Int32} {L0 : Nat → Nat → Int64} {post : Option Value → qS → Prop} {p1 : Int32} {p2 : Int32} (hok : q_ok (qGG D cA b E)) (hw : WfModel (qGG D cA b E) n sh Rf o) (ra : RAModel R o) (hq0 : (1 : Int) ≤ p1.toInt ∧ p1.toInt ≤ 5) (hR : RI R I0) (hp : ∀ (I' : Nat → Nat → Int32) (L' : Nat → Nat → Int64), RI R I' → Fm (fun c => c = o) I0 I' → (1 ≤ (I' o 4).toInt ∨ (I' o 4).toInt < 0) → (Im ((I0 o 4).toInt ≠ 0) ((I' o 4).toInt ≠ 0)) → ((I' o 2).toInt = (I0 o 2).toInt) → ((I' o 3).toInt = (I0 o 3).toInt) → ((I' o 6).toInt = (I0 o 6).toInt) → ((I' o 7).toInt = (I0 o 7).toInt) → ((I' o 8).toInt = (I0 o 8).toInt) → ((I' o 9).toInt = (I0 o 9).toInt) → ((I' o 35).toInt = (I0 o 35).toInt) → ((I' o 44).toInt = (I0 o 44).toInt) → ((I' o 45).toInt = (I0 o 45).toInt) → ((I' o 46).toInt = (I0 o 46).toInt) → ((I' o 47).toInt = (I0 o 47).toInt) → ((I' o 48).toInt = (I0 o 48).toInt) → ((I' o 49).toInt = (I0 o 49).toInt) → ((I' o 67).toInt = (I0 o 67).toInt) → post none (n, sh, Rf, I', L')) : Ev (qGG D cA b E) mModel_fails 0 (0, 0) 0 (lv_args 0 [.ref o, .int p1, .int p2]) [] (n, sh, Rf, I0, L0) post := by
  have hf : Fm (fun c => c = o) I0 I0 := Fm.rf
  have g_1 : (0 : Int) ≤ (I0 o 2).toInt ∧ (I0 o 2).toInt ≤ 1600 := hR.at0 ra 2 (by decide)
  have g_2 : (0 : Int) ≤ (I0 o 3).toInt ∧ (I0 o 3).toInt ≤ 1600 := hR.at0 ra 3 (by decide)
  have g_3 : (0 : Int) ≤ (I0 o 6).toInt ∧ (I0 o 6).toInt ≤ 1600 := hR.at0 ra 6 (by decide)
  have g_4 : (0 : Int) ≤ (I0 o 7).toInt ∧ (I0 o 7).toInt ≤ 1601 := hR.at0 ra 7 (by decide)
  have g_5 : (0 : Int) ≤ (I0 o 35).toInt ∧ (I0 o 35).toInt ≤ 1 := hR.at0 ra 35 (by decide)
  have g_6 : (0 : Int) ≤ (I0 o 67).toInt ∧ (I0 o 67).toInt ≤ 40 := hR.at0 ra 67 (by decide)
  refine sModel_fails_0 o n sh Rf I0 L0 post p1 p2 hok hw ?_
  unfold fModel_fails_0
  have l_7 : (0 : Int32).toInt = 0 := rfl
  refine ⟨fun c_8 => ?_, fun c_8 => ?_⟩
  · have d_9 := iLe c_8
    refine fun I_10 e_11 => ?_
    have hR_12 : RI R I_10 := hR.up0 ra (by decide) e_11 (i_lo _) (i_hi _)
    have hf_13 : Fm (fun c => c = o) I0 I_10 := hf.set (by first | rfl | omega | (dsimp only; omega)) e_11
    have t_14 : (I_10 o 4).toInt = p1.toInt := by rw [← e_11, q_u_at]
    have t_15 : (I_10 o 2).toInt = (I0 o 2).toInt := by rw [← e_11, q_u_k (by decide)]
    have t_16 : (I_10 o 3).toInt = (I0 o 3).toInt := by rw [← e_11, q_u_k (by decide)]
    have t_17 : (I_10 o 6).toInt = (I0 o 6).toInt := by rw [← e_11, q_u_k (by decide)]
    have t_18 : (I_10 o 7).toInt = (I0 o 7).toInt := by rw [← e_11, q_u_k (by decide)]
    have t_19 : (I_10 o 8).toInt = (I0 o 8).toInt := by rw [← e_11, q_u_k (by decide)]
    have t_20 : (I_10 o 9).toInt = (I0 o 9).toInt := by rw [← e_11, q_u_k (by decide)]
    have t_21 : (I_10 o 35).toInt = (I0 o 35).toInt := by rw [← e_11, q_u_k (by decide)]
    have t_22 : (I_10 o 44).toInt = (I0 o 44).toInt := by rw [← e_11, q_u_k (by decide)]
    have t_23 : (I_10 o 45).toInt = (I0 o 45).toInt := by rw [← e_11, q_u_k (by decide)]
    have t_24 : (I_10 o 46).toInt = (I0 o 46).toInt := by rw [← e_11, q_u_k (by decide)]
    have t_25 : (I_10 o 47).toInt = (I0 o 47).toInt := by rw [← e_11, q_u_k (by decide)]
    have t_26 : (I_10 o 48).toInt = (I0 o 48).toInt := by rw [← e_11, q_u_k (by decide)]
    have t_27 : (I_10 o 49).toInt = (I0 o 49).toInt := by rw [← e_11, q_u_k (by decide)]
    have t_28 : (I_10 o 67).toInt = (I0 o 67).toInt := by rw [← e_11, q_u_k (by decide)]
    refine fun I_29 e_30 => ?_
    have hR_31 : RI R I_29 := hR_12.up0 ra (by decide) e_30 (i_lo _) (i_hi _)
    have hf_32 : Fm (fun c => c = o) I0 I_29 := hf_13.set (by first | rfl | omega | (dsimp only; omega)) e_30
    have t_33 : (I_29 o 4).toInt = (I_10 o 4).toInt := by rw [← e_30, q_u_k (by decide)]
    have t_34 : (I_29 o 2).toInt = (I_10 o 2).toInt := by rw [← e_30, q_u_k (by decide)]
    have t_35 : (I_29 o 3).toInt = (I_10 o 3).toInt := by rw [← e_30, q_u_k (by decide)]
    have t_36 : (I_29 o 6).toInt = (I_10 o 6).toInt := by rw [← e_30, q_u_k (by decide)]
    have t_37 : (I_29 o 7).toInt = (I_10 o 7).toInt := by rw [← e_30, q_u_k (by decide)]
    have t_38 : (I_29 o 8).toInt = (I_10 o 8).toInt := by rw [← e_30, q_u_k (by decide)]
    have t_39 : (I_29 o 9).toInt = (I_10 o 9).toInt := by rw [← e_30, q_u_k (by decide)]
    have t_40 : (I_29 o 35).toInt = (I_10 o 35).toInt := by rw [← e_30, q_u_k (by decide)]
    have t_41 : (I_29 o 44).toInt = (I_10 o 44).toInt := by rw [← e_30, q_u_k (by decide)]
    have t_42 : (I_29 o 45).toInt = (I_10 o 45).toInt := by rw [← e_30, q_u_k (by decide)]
    have t_43 : (I_29 o 46).toInt = (I_10 o 46).toInt := by rw [← e_30, q_u_k (by decide)]
    have t_44 : (I_29 o 47).toInt = (I_10 o 47).toInt := by rw [← e_30, q_u_k (by decide)]
    have t_45 : (I_29 o 48).toInt = (I_10 o 48).toInt := by rw [← e_30, q_u_k (by decide)]
    have t_46 : (I_29 o 49).toInt = (I_10 o 49).toInt := by rw [← e_30, q_u_k (by decide)]
    have t_47 : (I_29 o 67).toInt = (I_10 o 67).toInt := by rw [← e_30, q_u_k (by decide)]
    exact (hp _ _ hR_31 hf_32 (by first | omega | (intro h; omega) | exact Or.inl rfl | exact Or.inr rfl) (by intro _; omega) (by first | omega | (intro h; omega) | exact Or.inl rfl | exact Or.inr rfl) (by first | omega | (intro h; omega) | exact Or.inl rfl | exact Or.inr rfl) (by first | omega | (intro h; omega) | exact Or.inl rfl | exact Or.inr rfl) (by first | omega | (intro h; omega) | exact Or.inl rfl | exact Or.inr rfl) (by first | omega | (intro h; omega) | exact Or.inl rfl | exact Or.inr rfl) (by first | omega | (intro h; omega) | exact Or.inl rfl | exact Or.inr rfl) (by first | omega | (intro h; omega) | exact Or.inl rfl | exact Or.inr rfl) (by first | omega | (intro h; omega) | exact Or.inl rfl | exact Or.inr rfl) (by first | omega | (intro h; omega) | exact Or.inl rfl | exact Or.inr rfl) (by first | omega | (intro h; omega) | exact Or.inl rfl | exact Or.inr rfl) (by first | omega | (intro h; omega) | exact Or.inl rfl | exact Or.inr rfl) (by first | omega | (intro h; omega) | exact Or.inl rfl | exact Or.inr rfl) (by first | omega | (intro h; omega) | exact Or.inl rfl | exact Or.inr rfl) (by first | omega | (intro h; omega) | exact Or.inl rfl | exact Or.inr rfl))
  · have d_48 := iNle c_8
    exact (hp _ _ hR hf (by first | omega | (intro h; omega) | exact Or.inl rfl | exact Or.inr rfl) (by intro _; omega) (by first | omega | (intro h; omega) | exact Or.inl rfl | exact Or.inr rfl) (by first | omega | (intro h; omega) | exact Or.inl rfl | exact Or.inr rfl) (by first | omega | (intro h; omega) | exact Or.inl rfl | exact Or.inr rfl) (by first | omega | (intro h; omega) | exact Or.inl rfl | exact Or.inr rfl) (by first | omega | (intro h; omega) | exact Or.inl rfl | exact Or.inr rfl) (by first | omega | (intro h; omega) | exact Or.inl rfl | exact Or.inr rfl) (by first | omega | (intro h; omega) | exact Or.inl rfl | exact Or.inr rfl) (by first | omega | (intro h; omega) | exact Or.inl rfl | exact Or.inr rfl) (by first | omega | (intro h; omega) | exact Or.inl rfl | exact Or.inr rfl) (by first | omega | (intro h; omega) | exact Or.inl rfl | exact Or.inr rfl) (by first | omega | (intro h; omega) | exact Or.inl rfl | exact Or.inr rfl) (by first | omega | (intro h; omega) | exact Or.inl rfl | exact Or.inr rfl) (by first | omega | (intro h; omega) | exact Or.inl rfl | exact Or.inr rfl) (by first | omega | (intro h; omega) | exact Or.inl rfl | exact Or.inr rfl))
set_option maxHeartbeats 4000000 in
set_option maxRecDepth 20000 in
theorem y_Model_is {D : va_G} {cA : FieldType → ClassId} {b : Nat} {E : State → Prop} {R : qRg} {o n : Nat} {sh : Nat → qC} {Rf : Nat → Nat → Option Nat} {I0 : Nat → Nat → Int32} {L0 : Nat → Nat → Int64} {post : Option Value → qS → Prop} {p1 : Int32} (hok : q_ok (qGG D cA b E)) (hw : WfModel (qGG D cA b E) n sh Rf o) (ra : RAModel R o) (hR : RI R I0) (hp : ∀ (r : Int32) , (Bz r) → post (some (.int r)) (n, sh, Rf, I0, L0)) : Ev (qGG D cA b E) mModel_is 1 (0, 0) 0 (lv_args 0 [.ref o, .int p1]) [] (n, sh, Rf, I0, L0) post := by
  refine sModel_is_0 o n sh Rf I0 L0 post p1 hok hw ?_
  unfold fModel_is_0
  have l_1 : (6 : Int32).toInt = 6 := rfl
  refine ⟨fun c_2 => ?_, fun c_2 => ?_⟩
  · have d_3 := iNe c_2
    have l_4 : (0 : Int32).toInt = 0 := rfl
    exact (hp _ (Or.inl rfl))
  · have d_5 := iEq c_2
    have g_6 : (0 : Int) ≤ (I0 o 6).toInt ∧ (I0 o 6).toInt ≤ 1600 := hR.at0 ra 6 (by decide)
    refine y_Model_sign hok hw ra (by first | omega | (intro h; omega) | exact Or.inl rfl | exact Or.inr rfl) hR (fun r_7 u_8 u_9 => ⟨r_7, I0, L0, rfl, rfl, ?_⟩)
    refine ⟨fun c_10 => ?_, fun c_10 => ?_⟩
    · have d_11 := iNe c_10
      have l_12 : (0 : Int32).toInt = 0 := rfl
      exact (hp _ (Or.inl rfl))
    · have d_13 := iEq c_10
      have l_14 : (1 : Int32).toInt = 1 := rfl
      exact (hp _ (Or.inr rfl))
set_option maxHeartbeats 4000000 in
set_option maxRecDepth 20000 in
theorem y_Model_isWord {D : va_G} {cA : FieldType → ClassId} {b : Nat} {E : State → Prop} {R : qRg} {o n : Nat} {sh : Nat → qC} {Rf : Nat → Nat → Option Nat} {I0 : Nat → Nat → Int32} {L0 : Nat → Nat → Int64} {post : Option Value → qS → Prop} {p1 : Int64} (hok : q_ok (qGG D cA b E)) (hw : WfModel (qGG D cA b E) n sh Rf o) (ra : RAModel R o) (hR : RI R I0) (hp : ∀ (r : Int32) , (Bz r) → (Im (r.toInt ≠ 0) ((I0 o 8).toInt = 3)) → post (some (.int r)) (n, sh, Rf, I0, L0)) : Ev (qGG D cA b E) mModel_isWord 0 (0, 0) 0 (lv_args 0 [.ref o, .long p1]) [] (n, sh, Rf, I0, L0) post := by
  refine sModel_isWord_0 o n sh Rf I0 L0 post p1 hok hw ?_
  unfold fModel_isWord_0
  have l_1 : (3 : Int32).toInt = 3 := rfl
  refine ⟨fun c_2 => ?_, fun c_2 => ?_⟩
  · have d_3 := iNe c_2
    have l_4 : (0 : Int32).toInt = 0 := rfl
    exact (hp _ (Or.inl rfl) (by intro _; omega))
  · have d_5 := iEq c_2
    have l_6 : (0 : Int32).toInt = 0 := rfl
    refine ⟨fun c_7 => ?_, fun c_7 => ?_⟩
    · have d_8 := iNe c_7
      exact (hp _ (Or.inl rfl) (by intro _; omega))
    · have d_9 := iEq c_7
      have l_10 : (1 : Int32).toInt = 1 := rfl
      exact (hp _ (Or.inr rfl) (by intro _; omega))
set_option maxHeartbeats 4000000 in
set_option maxRecDepth 20000 in
theorem yModel_takeTape_25 {D : va_G} {cA : FieldType → ClassId} {b : Nat} {E : State → Prop} {R : qRg} {o n : Nat} {sh : Nat → qC} {Rf : Nat → Nat → Option Nat} {I0 : Nat → Nat → Int32} {L0 : Nat → Nat → Int64} {post : Option Value → qS → Prop} {p1 : Int32} (hok : q_ok (qGG D cA b E)) (hw : WfModel (qGG D cA b E) n sh Rf o) (ra : RAModel R o) (hq0 : p1 = 0 ∨ p1 = 1) (hp : ∀ (I' : Nat → Nat → Int32) (L' : Nat → Nat → Int64), RI R I' → Fm (fun c => c = o ∨ c = o + 2) I0 I' → ((I' o 7).toInt = 0) → ((I' o 4).toInt = 0) → ((I' o 3).toInt = (I0 o 2).toInt) → ((I' o 2).toInt = 0) → post none (n, sh, Rf, I', L')) : ∀ (k : Nat) {x1 : Int32} {x2 : Int32} {I : Nat → Nat → Int32} {L : Nat → Nat → Int64}, RI R I → Fm (fun c => c = o ∨ c = o + 2) I0 I → ((0 : Int) ≤ x2.toInt ∧ x2.toInt ≤ 1600) → ((I o 4).toInt = 0) → ((I o 3).toInt = (I0 o 2).toInt) → ((I o 2).toInt = (I0 o 2).toInt) → (1600 - x2.toInt).toNat < k → Ev (qGG D cA b E) mModel_takeTape 0 (0, 0) 25 [(0, .ref o), (1, .int x1), (2, .int x2)] [] (n, sh, Rf, I, L) post := by
  intro k
  induction k with
  | zero =>
    intro x1 x2 I L hR hf hi0 hi1 hi2 hi3 hm
    exact absurd hm (Nat.not_lt_zero _)
  | succ k ih =>
    intro x1 x2 I L hR hf hi0 hi1 hi2 hi3 hm
    have g_1 : (0 : Int) ≤ (I o 2).toInt ∧ (I o 2).toInt ≤ 1600 := hR.at0 ra 2 (by decide)
    have g_2 : (0 : Int) ≤ (I o 3).toInt ∧ (I o 3).toInt ≤ 1600 := hR.at0 ra 3 (by decide)
    have g_3 : (0 : Int) ≤ (I o 7).toInt ∧ (I o 7).toInt ≤ 1601 := hR.at0 ra 7 (by decide)
    refine sModel_takeTape_25 o n sh Rf I L post x1 x2 hok hw ?_
    unfold fModel_takeTape_25
    have g_4 : (0 : Int) ≤ (I o 3).toInt ∧ (I o 3).toInt ≤ 1600 := hR.at0 ra 3 (by decide)
    refine ⟨fun c_5 => ?_, fun c_5 => ?_⟩
    · have d_6 := iLe c_5
      have l_7 : (0 : Int32).toInt = 0 := rfl
      refine fun I_8 e_9 => ?_
      have hR_10 : RI R I_8 := hR.up0 ra (by decide) e_9 (show (0 : Int) ≤ (0 : Int32).toInt by omega) (show (0 : Int32).toInt ≤ (1600 : Int) by omega)
      have hf_11 : Fm (fun c => c = o ∨ c = o + 2) I0 I_8 := hf.set (by first | rfl | omega | (dsimp only; omega)) e_9
      have t_12 : (I_8 o 2).toInt = (0 : Int32).toInt := by rw [← e_9, q_u_at]
      have t_13 : (I_8 o 3).toInt = (I o 3).toInt := by rw [← e_9, q_u_k (by decide)]
      have t_14 : (I_8 o 4).toInt = (I o 4).toInt := by rw [← e_9, q_u_k (by decide)]
      have t_15 : (I_8 o 7).toInt = (I o 7).toInt := by rw [← e_9, q_u_k (by decide)]
      refine fun I_16 e_17 => ?_
      have hR_18 : RI R I_16 := hR_10.up0 ra (by decide) e_17 (show (0 : Int) ≤ (0 : Int32).toInt by omega) (show (0 : Int32).toInt ≤ (1601 : Int) by omega)
      have hf_19 : Fm (fun c => c = o ∨ c = o + 2) I0 I_16 := hf_11.set (by first | rfl | omega | (dsimp only; omega)) e_17
      have t_20 : (I_16 o 2).toInt = (I_8 o 2).toInt := by rw [← e_17, q_u_k (by decide)]
      have t_21 : (I_16 o 3).toInt = (I_8 o 3).toInt := by rw [← e_17, q_u_k (by decide)]
      have t_22 : (I_16 o 4).toInt = (I_8 o 4).toInt := by rw [← e_17, q_u_k (by decide)]
      have t_23 : (I_16 o 7).toInt = (0 : Int32).toInt := by rw [← e_17, q_u_at]
      exact (hp _ _ hR_18 hf_19 (by first | omega | (intro h; omega) | exact Or.inl rfl | exact Or.inr rfl) (by first | omega | (intro h; omega) | exact Or.inl rfl | exact Or.inr rfl) (by first | omega | (intro h; omega) | exact Or.inl rfl | exact Or.inr rfl) (by first | omega | (intro h; omega) | exact Or.inl rfl | exact Or.inr rfl))
    · have d_24 := iNle c_5
      refine ⟨tIn (by omega) (by omega), ?_⟩
      refine ⟨tIn (by omega) (by omega), fun I_25 e_26 => ?_⟩
      have hR_27 : RI R I_25 := hR.up ra 2 (by decide) e_26 (i_lo _) (i_hi _)
      have hf_28 : Fm (fun c => c = o ∨ c = o + 2) I0 I_25 := hf.set (by first | rfl | omega | (dsimp only; omega)) e_26
      have t_29 : (I_25 o 2).toInt = (I o 2).toInt := by rw [← e_26, q_u_ne (by omega)]
      have t_30 : (I_25 o 3).toInt = (I o 3).toInt := by rw [← e_26, q_u_ne (by omega)]
      have t_31 : (I_25 o 4).toInt = (I o 4).toInt := by rw [← e_26, q_u_ne (by omega)]
      have t_32 : (I_25 o 7).toInt = (I o 7).toInt := by rw [← e_26, q_u_ne (by omega)]
      have a_34 : (x2 + Int32.ofInt 1).toInt = x2.toInt + (1) := tIc (by omega) (by omega) (by decide) (by decide)
      generalize ez_33 : (x2 + Int32.ofInt 1) = z_33 at a_34 ⊢
      exact ih hR_27 hf_28 (by first | omega | (intro h; omega) | exact Or.inl rfl | exact Or.inr rfl) (by first | omega | (intro h; omega) | exact Or.inl rfl | exact Or.inr rfl) (by first | omega | (intro h; omega) | exact Or.inl rfl | exact Or.inr rfl) (by first | omega | (intro h; omega) | exact Or.inl rfl | exact Or.inr rfl) (by omega)
set_option maxHeartbeats 4000000 in
set_option maxRecDepth 20000 in
theorem y_Model_takeTape {D : va_G} {cA : FieldType → ClassId} {b : Nat} {E : State → Prop} {R : qRg} {o n : Nat} {sh : Nat → qC} {Rf : Nat → Nat → Option Nat} {I0 : Nat → Nat → Int32} {L0 : Nat → Nat → Int64} {post : Option Value → qS → Prop} {p1 : Int32} (hok : q_ok (qGG D cA b E)) (hw : WfModel (qGG D cA b E) n sh Rf o) (ra : RAModel R o) (hq0 : p1 = 0 ∨ p1 = 1) (hR : RI R I0) (hp : ∀ (I' : Nat → Nat → Int32) (L' : Nat → Nat → Int64), RI R I' → Fm (fun c => c = o ∨ c = o + 2) I0 I' → ((I' o 7).toInt = 0) → ((I' o 4).toInt = 0) → ((I' o 3).toInt = (I0 o 2).toInt) → ((I' o 2).toInt = 0) → post none (n, sh, Rf, I', L')) : Ev (qGG D cA b E) mModel_takeTape 0 (0, 0) 0 (lv_args 0 [.ref o, .int p1]) [] (n, sh, Rf, I0, L0) post := by
  have hf : Fm (fun c => c = o ∨ c = o + 2) I0 I0 := Fm.rf
  have g_35 : (0 : Int) ≤ (I0 o 2).toInt ∧ (I0 o 2).toInt ≤ 1600 := hR.at0 ra 2 (by decide)
  have g_36 : (0 : Int) ≤ (I0 o 3).toInt ∧ (I0 o 3).toInt ≤ 1600 := hR.at0 ra 3 (by decide)
  have g_37 : (0 : Int) ≤ (I0 o 7).toInt ∧ (I0 o 7).toInt ≤ 1601 := hR.at0 ra 7 (by decide)
  refine sModel_takeTape_0 o n sh Rf I0 L0 post p1 hok hw ?_
  unfold fModel_takeTape_0
  refine ⟨hq0, fun I_38 e_39 => ?_⟩
  have hR_40 : RI R I_38 := hR.up0 ra (by decide) e_39 (i_lo _) (i_hi _)
  have hf_41 : Fm (fun c => c = o ∨ c = o + 2) I0 I_38 := hf.set (by first | rfl | omega | (dsimp only; omega)) e_39
  have t_42 : (I_38 o 2).toInt = (I0 o 2).toInt := by rw [← e_39, q_u_k (by decide)]
  have t_43 : (I_38 o 3).toInt = (I0 o 3).toInt := by rw [← e_39, q_u_k (by decide)]
  have t_44 : (I_38 o 4).toInt = (I0 o 4).toInt := by rw [← e_39, q_u_k (by decide)]
  have t_45 : (I_38 o 7).toInt = (I0 o 7).toInt := by rw [← e_39, q_u_k (by decide)]
  have l_46 : (0 : Int32).toInt = 0 := rfl
  refine fun I_47 e_48 => ?_
  have hR_49 : RI R I_47 := hR_40.up0 ra (by decide) e_48 (i_lo _) (i_hi _)
  have hf_50 : Fm (fun c => c = o ∨ c = o + 2) I0 I_47 := hf_41.set (by first | rfl | omega | (dsimp only; omega)) e_48
  have t_51 : (I_47 o 2).toInt = (I_38 o 2).toInt := by rw [← e_48, q_u_k (by decide)]
  have t_52 : (I_47 o 3).toInt = (I_38 o 3).toInt := by rw [← e_48, q_u_k (by decide)]
  have t_53 : (I_47 o 4).toInt = (0 : Int32).toInt := by rw [← e_48, q_u_at]
  have t_54 : (I_47 o 7).toInt = (I_38 o 7).toInt := by rw [← e_48, q_u_k (by decide)]
  have l_55 : (-1 : Int32).toInt = -1 := rfl
  refine fun I_56 e_57 => ?_
  have hR_58 : RI R I_56 := hR_49.up0 ra (by decide) e_57 (i_lo _) (i_hi _)
  have hf_59 : Fm (fun c => c = o ∨ c = o + 2) I0 I_56 := hf_50.set (by first | rfl | omega | (dsimp only; omega)) e_57
  have t_60 : (I_56 o 2).toInt = (I_47 o 2).toInt := by rw [← e_57, q_u_k (by decide)]
  have t_61 : (I_56 o 3).toInt = (I_47 o 3).toInt := by rw [← e_57, q_u_k (by decide)]
  have t_62 : (I_56 o 4).toInt = (I_47 o 4).toInt := by rw [← e_57, q_u_k (by decide)]
  have t_63 : (I_56 o 7).toInt = (I_47 o 7).toInt := by rw [← e_57, q_u_k (by decide)]
  have g_64 : (0 : Int) ≤ (I_56 o 2).toInt ∧ (I_56 o 2).toInt ≤ 1600 := hR_58.at0 ra 2 (by decide)
  refine fun I_65 e_66 => ?_
  have hR_67 : RI R I_65 := hR_58.up0 ra (by decide) e_66 (show (0 : Int) ≤ (I_56 o 2).toInt by omega) (show (I_56 o 2).toInt ≤ (1600 : Int) by omega)
  have hf_68 : Fm (fun c => c = o ∨ c = o + 2) I0 I_65 := hf_59.set (by first | rfl | omega | (dsimp only; omega)) e_66
  have t_69 : (I_65 o 2).toInt = (I_56 o 2).toInt := by rw [← e_66, q_u_k (by decide)]
  have t_70 : (I_65 o 3).toInt = (I_56 o 2).toInt := by rw [← e_66, q_u_at]
  have t_71 : (I_65 o 4).toInt = (I_56 o 4).toInt := by rw [← e_66, q_u_k (by decide)]
  have t_72 : (I_65 o 7).toInt = (I_56 o 7).toInt := by rw [← e_66, q_u_k (by decide)]
  exact yModel_takeTape_25 (I0 := I0) (L0 := L0) (p1 := p1) hok hw ra hq0 hp  _ hR_67 hf_68 (by first | omega | (intro h; omega) | exact Or.inl rfl | exact Or.inr rfl) (by first | omega | (intro h; omega) | exact Or.inl rfl | exact Or.inr rfl) (by first | omega | (intro h; omega) | exact Or.inl rfl | exact Or.inr rfl) (by first | omega | (intro h; omega) | exact Or.inl rfl | exact Or.inr rfl) (Nat.lt_succ_self _)
