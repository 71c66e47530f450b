/-! Safety of the reference, its TOKENS: by program (spec.py). -/
/-- n digits behind k give v -/
def PtN (B : Nat → Int32) (len k : Int32) (n v : Int) : Prop := (n = 0 → v = 0) ∧ (n = 1 → 48 ≤ (sgF B len k).toInt ∧ (sgF B len k).toInt ≤ 57 ∧ v = (sgF B len k).toInt - 48) ∧ (n = 2 → 48 ≤ (sgF B len k).toInt ∧ (sgF B len k).toInt ≤ 57 ∧ 48 ≤ (sgF B len (k + 1)).toInt ∧ (sgF B len (k + 1)).toInt ≤ 57 ∧ v = 10 * ((sgF B len k).toInt - 48) + (sgF B len (k + 1)).toInt - 48)
/-- a POINT's number of r digits -/
def PtR (B : Nat → Int32) (len k : Int32) (r : Int) : Prop := (r = 1 → 48 ≤ (sgF B len k).toInt ∧ (sgF B len k).toInt ≤ 57) ∧ (r = 2 → 48 ≤ (sgF B len k).toInt ∧ (sgF B len k).toInt ≤ 57 ∧ 48 ≤ (sgF B len (k + 1)).toInt ∧ (sgF B len (k + 1)).toInt ≤ 57 ∧ 10 * ((sgF B len k).toInt - 48) + (sgF B len (k + 1)).toInt - 48 ≤ 15)
theorem PtN.zero {B : Nat → Int32} {len k : Int32} : PtN B len k (0 : Int32).toInt (0 : Int32).toInt := ⟨fun _ => rfl, fun h => absurd h (by decide), fun h => absurd h (by decide)⟩
theorem PtN.step {B : Nat → Int32} {len k y v c : Int32} {y' : Int} (h : PtN B len k y.toInt v.toInt) (hy : y' = y.toInt + 1) (h0 : 0 ≤ y.toInt) (hc : c = sgF B len (k + y)) (d1 : 48 ≤ c.toInt) (d2 : c.toInt ≤ 57) : PtN B len k y' (10 * v + c - 48).toInt := by
  obtain ⟨p0, p1, p2⟩ := h
  have e48 : (48 : Int32).toInt = 48 := rfl
  have st : 0 ≤ v.toInt → v.toInt ≤ 9 → (10 * v + c - 48).toInt = 10 * v.toInt + c.toInt - 48 := fun a1 a2 => by
    have s2 : (10 * v).toInt = 10 * v.toInt := tMulL rfl (by omega) (by omega)
    have s3 : (10 * v + c).toInt = (10 * v).toInt + c.toInt := tAdd (by omega) (by omega)
    have s4 : (10 * v + c - 48).toInt = (10 * v + c).toInt - (48 : Int32).toInt := tSub (by omega) (by omega)
    omega
  refine ⟨fun h => absurd h (by omega), fun h => ?_, fun h => ?_⟩
  · have ey : y = 0 := Int32.toInt_inj.mp (show y.toInt = (0 : Int32).toInt by have : (0 : Int32).toInt = 0 := rfl; omega)
    have v0 := p0 (by omega)
    have q := st (by omega) (by omega)
    rw [ey, Int32.add_zero] at hc
    rw [← hc]
    omega
  · have ey : y = 1 := Int32.toInt_inj.mp (show y.toInt = (1 : Int32).toInt by have : (1 : Int32).toInt = 1 := rfl; omega)
    have v1 := p1 (by omega)
    have q := st (by omega) (by omega)
    rw [ey] at hc
    rw [← hc]
    omega
theorem PtN.out {B : Nat → Int32} {len k : Int32} {n v : Int} (h : PtN B len k n v) (hv : v ≤ 15) : PtR B len k n := by
  obtain ⟨_, p1, p2⟩ := h
  exact ⟨fun e => ⟨(p1 e).1, (p1 e).2.1⟩, fun e => by have q := p2 e; omega⟩
theorem PtR.no {B : Nat → Int32} {len k : Int32} : PtR B len k (0 : Int32).toInt := ⟨fun h => absurd h (by decide), fun h => absurd h (by decide)⟩
set_option maxHeartbeats 4000000 in
set_option maxRecDepth 20000 in
theorem yModel_pointAt_4 {D : va_G} {cA : FieldType → ClassId} {b : Nat} {E : State → Prop} {R : qRg} {o n : Nat} {sh : Nat → qC} {Rf : Nat → Nat → Option Nat} {I0 : Nat → Nat → Int32} {L0 : Nat → Nat → Int64} {post : Option Value → qS → Prop} {p1 : Int32} (hok : q_ok (qGG D cA b E)) (hw : WfModel (qGG D cA b E) n sh Rf o) (ra : RAModel R o) (hq0 : (0 : Int) ≤ p1.toInt ∧ p1.toInt ≤ 1700) (hR : RI R I0) (hp : ∀ (r : Int32) , (((0 : Int) ≤ r.toInt ∧ r.toInt ≤ 2)) → (PtR (I0 (o + 2)) (I0 o 3) p1 r.toInt) → post (some (.int r)) (n, sh, Rf, I0, L0)) : ∀ (k : Nat) {x1 : Int32} {x2 : Int32} {x3 : Int32} , ((0 : Int) ≤ x2.toInt ∧ x2.toInt ≤ 3) → ((0 : Int) ≤ x1.toInt ∧ x1.toInt ≤ 1700) → (x1 = p1) → (PtN (I0 (o + 2)) (I0 o 3) x1 x2.toInt x3.toInt) → (3 - x2.toInt).toNat < k → Ev (qGG D cA b E) mModel_pointAt 1 (0, 0) 4 [(0, .ref o), (1, .int x1), (2, .int x2), (3, .int x3)] [] (n, sh, Rf, I0, L0) post := by
  intro k
  induction k with
  | zero =>
    intro x1 x2 x3 hi0 hi1 hi2 hi3 hm
    exact absurd hm (Nat.not_lt_zero _)
  | succ k ih =>
    intro x1 x2 x3 hi0 hi1 hi2 hi3 hm
    refine sModel_pointAt_4 o n sh Rf I0 L0 post x1 x2 x3 hok hw ?_
    unfold fModel_pointAt_4
    have l_1 : (3 : Int32).toInt = 3 := rfl
    refine ⟨fun c_2 => ?_, fun c_2 => ?_⟩
    · have d_3 := iLe c_2
      unfold fModel_pointAt_44
      have l_4 : (1 : Int32).toInt = 1 := rfl
      refine ⟨fun c_5 => ?_, fun c_5 => ?_⟩
      · have d_6 := iLt c_5
        exfalso; omega
      · have d_7 := iNlt c_5
        have l_8 : (2 : Int32).toInt = 2 := rfl
        refine ⟨fun c_9 => ?_, fun c_9 => ?_⟩
        · have d_10 := iLt c_9
          unfold fModel_pointAt_73
          have l_11 : (0 : Int32).toInt = 0 := rfl
          exact (hp _ (by first | omega | (intro h; omega) | exact Or.inl rfl | exact Or.inr rfl) (by first | exact PtR.no | (subst_vars; exact PtN.out (by assumption) (by omega))))
        · have d_12 := iNlt c_9
          exfalso; omega
    · have d_13 := iNle c_2
      have a_14 : (x1 + x2).toInt = x1.toInt + x2.toInt := tAdd (by omega) (by omega)
      refine y_Model_sign hok hw ra (by first | omega | (intro h; omega) | exact Or.inl rfl | exact Or.inr rfl) hR (fun r_15 u_16 u_17 => ⟨r_15, I0, L0, rfl, rfl, ?_⟩)
      refine y_Model_isDigit hok hR (fun r_18 u_19 u_20 u_21 => ⟨r_18, I0, L0, rfl, rfl, ?_⟩)
      have b_22 : 0 ≤ r_18.toInt ∧ r_18.toInt ≤ 1 := u_19.rg
      have l_23 : (0 : Int32).toInt = 0 := rfl
      refine ⟨fun c_24 => ?_, fun c_24 => ?_⟩
      · have d_25 := iEq c_24
        unfold fModel_pointAt_44
        have l_26 : (1 : Int32).toInt = 1 := rfl
        refine ⟨fun c_27 => ?_, fun c_27 => ?_⟩
        · have d_28 := iLt c_27
          unfold fModel_pointAt_73
          exact (hp _ (by first | omega | (intro h; omega) | exact Or.inl rfl | exact Or.inr rfl) (by first | exact PtR.no | (subst_vars; exact PtN.out (by assumption) (by omega))))
        · have d_29 := iNlt c_27
          have l_30 : (2 : Int32).toInt = 2 := rfl
          refine ⟨fun c_31 => ?_, fun c_31 => ?_⟩
          · have d_32 := iLt c_31
            exfalso; omega
          · have d_33 := iNlt c_31
            have l_34 : (16 : Int32).toInt = 16 := rfl
            refine ⟨fun c_35 => ?_, fun c_35 => ?_⟩
            · have d_36 := iLe c_35
              unfold fModel_pointAt_73
              exact (hp _ (by first | omega | (intro h; omega) | exact Or.inl rfl | exact Or.inr rfl) (by first | exact PtR.no | (subst_vars; exact PtN.out (by assumption) (by omega))))
            · have d_37 := iNle c_35
              have a_38 : (x1 + x2).toInt = x1.toInt + x2.toInt := tAdd (by omega) (by omega)
              refine y_Model_sign hok hw ra (by first | omega | (intro h; omega) | exact Or.inl rfl | exact Or.inr rfl) hR (fun r_39 u_40 u_41 => ⟨r_39, I0, L0, rfl, rfl, ?_⟩)
              refine y_Model_isLetter hok hR (fun r_42 u_43 u_44 => ⟨r_42, I0, L0, rfl, rfl, ?_⟩)
              have b_45 : 0 ≤ r_42.toInt ∧ r_42.toInt ≤ 1 := u_43.rg
              refine ⟨fun c_46 => ?_, fun c_46 => ?_⟩
              · have d_47 := iEq c_46
                exact (hp _ (by first | omega | (intro h; omega) | exact Or.inl rfl | exact Or.inr rfl) (by first | exact PtR.no | (subst_vars; exact PtN.out (by assumption) (by omega))))
              · have d_48 := iNe c_46
                unfold fModel_pointAt_73
                exact (hp _ (by first | omega | (intro h; omega) | exact Or.inl rfl | exact Or.inr rfl) (by first | exact PtR.no | (subst_vars; exact PtN.out (by assumption) (by omega))))
      · have d_49 := iNe c_24
        have dg := u_20 (by omega)
        have a_50 : (x1 + x2).toInt = x1.toInt + x2.toInt := tAdd (by omega) (by omega)
        refine y_Model_sign hok hw ra (by first | omega | (intro h; omega) | exact Or.inl rfl | exact Or.inr rfl) hR (fun r_51 u_52 u_53 => ⟨r_51, I0, L0, rfl, rfl, ?_⟩)
        have sq := u_53
        have be := iEq ((u_53).trans (u_17).symm)
        have a_55 : (x2 + Int32.ofInt 1).toInt = x2.toInt + (1) := tIc (by omega) (by omega) (by decide) (by decide)
        generalize ez_54 : (x2 + Int32.ofInt 1) = z_54 at a_55 ⊢
        exact ih (by first | omega | (intro h; omega) | exact Or.inl rfl | exact Or.inr rfl) (by first | omega | (intro h; omega) | exact Or.inl rfl | exact Or.inr rfl) (by first | rfl | assumption) (by first | exact PtN.zero | exact PtN.step hi3 (by omega) (by omega) sq (by omega) (by omega)) (by omega)
set_option maxHeartbeats 4000000 in
set_option maxRecDepth 20000 in
theorem y_Model_pointAt {D : va_G} {cA : FieldType → ClassId} {b : Nat} {E : State → Prop} {R : qRg} {o n : Nat} {sh : Nat → qC} {Rf : Nat → Nat → Option Nat} {I0 : Nat → Nat → Int32} {L0 : Nat → Nat → Int64} {post : Option Value → qS → Prop} {p1 : Int32} (hok : q_ok (qGG D cA b E)) (hw : WfModel (qGG D cA b E) n sh Rf o) (ra : RAModel R o) (hq0 : (0 : Int) ≤ p1.toInt ∧ p1.toInt ≤ 1700) (hR : RI R I0) (hp : ∀ (r : Int32) , (((0 : Int) ≤ r.toInt ∧ r.toInt ≤ 2)) → (PtR (I0 (o + 2)) (I0 o 3) p1 r.toInt) → post (some (.int r)) (n, sh, Rf, I0, L0)) : Ev (qGG D cA b E) mModel_pointAt 1 (0, 0) 0 (lv_args 0 [.ref o, .int p1]) [] (n, sh, Rf, I0, L0) post := by
  refine sModel_pointAt_0 o n sh Rf I0 L0 post p1 hok hw ?_
  unfold fModel_pointAt_0
  have l_56 : (0 : Int32).toInt = 0 := rfl
  exact yModel_pointAt_4 (I0 := I0) (L0 := L0) (p1 := p1) hok hw ra hq0 hR hp  _ (by first | omega | (intro h; omega) | exact Or.inl rfl | exact Or.inr rfl) (by first | omega | (intro h; omega) | exact Or.inl rfl | exact Or.inr rfl) (by first | rfl | assumption) (by first | exact PtN.zero | exact PtN.step hi3 (by omega) (by omega) sq (by omega) (by omega)) (Nat.lt_succ_self _)
theorem sg_lt {B : Nat → Int32} {len k : Int32} (h : 48 ≤ (sgF B len k).toInt) : k.toInt < len.toInt := by
  unfold sgF at h
  split at h
  · exact absurd h (by decide)
  · next h1 => exact iNle h1
theorem sgLo {B : Nat → Int32} {len k a c : Int32} (hc : c = sgF B len a) (hk : k.toInt = a.toInt) (h : 48 ≤ c.toInt) : 48 ≤ (sgF B len k).toInt := by rw [Int32.toInt_inj.mp hk, ← hc]; exact h
theorem sgHi {B : Nat → Int32} {len k a c : Int32} (hc : c = sgF B len a) (hk : k.toInt = a.toInt) (h : c.toInt ≤ 57) : (sgF B len k).toInt ≤ 57 := by rw [Int32.toInt_inj.mp hk, ← hc]; exact h
theorem PtR.dig {B : Nat → Int32} {len k : Int32} {r : Int} (h : PtR B len k r) (h1 : 0 < r) (h2 : r ≤ 2) : 48 ≤ (sgF B len k).toInt ∧ (sgF B len k).toInt ≤ 57 := by
  by_cases e : r = 1
  · exact h.1 e
  · have q := h.2 (by omega)
    exact ⟨q.1, q.2.1⟩
theorem PtR.two {B : Nat → Int32} {len k : Int32} {r : Int} (h : PtR B len k r) (e : r = 2) : 48 ≤ (sgF B len k).toInt ∧ (sgF B len k).toInt ≤ 57 ∧ 48 ≤ (sgF B len (k + 1)).toInt ∧ (sgF B len (k + 1)).toInt ≤ 57 ∧ 10 * ((sgF B len k).toInt - 48) + (sgF B len (k + 1)).toInt - 48 ≤ 15 := h.2 e
theorem mul10 {v c : Int32} (a1 : 0 ≤ v.toInt) (a2 : v.toInt ≤ 9) (d1 : 48 ≤ c.toInt) (d2 : c.toInt ≤ 57) : (10 * v + c - 48).toInt = 10 * v.toInt + c.toInt - 48 := by
  have e48 : (48 : Int32).toInt = 48 := rfl
  have s2 : (10 * v).toInt = 10 * v.toInt := tMulL rfl (by omega) (by omega)
  have s3 : (10 * v + c).toInt = (10 * v).toInt + c.toInt := tAdd (by omega) (by omega)
  have s4 : (10 * v + c - 48).toInt = (10 * v + c).toInt - (48 : Int32).toInt := tSub (by omega) (by omega)
  omega
set_option maxHeartbeats 4000000 in
set_option maxRecDepth 20000 in
theorem yModel_next_363 {D : va_G} {cA : FieldType → ClassId} {b : Nat} {E : State → Prop} {R : qRg} {o n : Nat} {sh : Nat → qC} {Rf : Nat → Nat → Option Nat} {I0 : Nat → Nat → Int32} {L0 : Nat → Nat → Int64} {post : Option Value → qS → Prop} (hok : q_ok (qGG D cA b E)) (hw : WfModel (qGG D cA b E) n sh Rf o) (ra : RAModel R o) (hq0 : (I0 o 7).toInt ≤ (I0 o 3).toInt) (hp : ∀ (I' : Nat → Nat → Int32) (L' : Nat → Nat → Int64), RI R I' → Fm (fun c => c = o) I0 I' → ((I' o 7).toInt ≤ (I' o 3).toInt) → ((I0 o 7).toInt ≤ (I' o 7).toInt) → (Im ((I' o 8).toInt ≠ 0) ((I0 o 7).toInt < (I' o 7).toInt)) → (Im ((I' o 8).toInt = 5) (0 ≤ (I' o 9).toInt ∧ (I' o 9).toInt ≤ 15)) → ((I' o 3).toInt = (I0 o 3).toInt) → ((I' o 4).toInt = (I0 o 4).toInt) → ((I' o 44).toInt = (I0 o 44).toInt) → ((I' o 45).toInt = (I0 o 45).toInt) → ((I' o 46).toInt = (I0 o 46).toInt) → ((I' o 47).toInt = (I0 o 47).toInt) → ((I' o 48).toInt = (I0 o 48).toInt) → ((I' o 49).toInt = (I0 o 49).toInt) → post none (n, sh, Rf, I', L')) : ∀ (k : Nat) {x1 : Int32} {I : Nat → Nat → Int32} {L : Nat → Nat → Int64}, RI R I → Fm (fun c => c = o) I0 I → ((I0 o 7).toInt ≤ (I o 6).toInt) → ((I o 6).toInt ≤ (I o 7).toInt) → (48 ≤ (sgF (I0 (o + 2)) (I0 o 3) (I o 6)).toInt) → ((sgF (I0 (o + 2)) (I0 o 3) (I o 6)).toInt ≤ 57) → ((I o 7).toInt ≤ (I o 3).toInt) → ((I o 3).toInt = (I0 o 3).toInt) → ((I o 4).toInt = (I0 o 4).toInt) → ((I o 44).toInt = (I0 o 44).toInt) → ((I o 45).toInt = (I0 o 45).toInt) → ((I o 46).toInt = (I0 o 46).toInt) → ((I o 47).toInt = (I0 o 47).toInt) → ((I o 48).toInt = (I0 o 48).toInt) → ((I o 49).toInt = (I0 o 49).toInt) → (1600 - (I o 7).toInt).toNat < k → Ev (qGG D cA b E) mModel_next 2 (0, 0) 363 [(0, .ref o), (1, .int x1)] [] (n, sh, Rf, I, L) post := by
  intro k
  induction k with
  | zero =>
    intro x1 I L hR hf hi0 hi1 hi2 hi3 hi4 hi5 hi6 hi7 hi8 hi9 hi10 hi11 hi12 hm
    exact absurd hm (Nat.not_lt_zero _)
  | succ k ih =>
    intro x1 I L hR hf hi0 hi1 hi2 hi3 hi4 hi5 hi6 hi7 hi8 hi9 hi10 hi11 hi12 hm
    have g_1 : (0 : Int) ≤ (I o 6).toInt ∧ (I o 6).toInt ≤ 1600 := hR.at0 ra 6 (by decide)
    have g_2 : (0 : Int) ≤ (I o 7).toInt ∧ (I o 7).toInt ≤ 1601 := hR.at0 ra 7 (by decide)
    have g_3 : (0 : Int) ≤ (I o 3).toInt ∧ (I o 3).toInt ≤ 1600 := hR.at0 ra 3 (by decide)
    refine sModel_next_363 o n sh Rf I L post x1 hok hw ?_
    unfold fModel_next_363
    have g_4 : (0 : Int) ≤ (I o 7).toInt ∧ (I o 7).toInt ≤ 1601 := hR.at0 ra 7 (by decide)
    refine y_Model_sign hok hw ra (by first | omega | (intro h; omega) | exact Or.inl rfl | exact Or.inr rfl) hR (fun r_5 u_6 u_7 => ⟨r_5, I, L, rfl, rfl, ?_⟩)
    refine y_Model_isDigit hok hR (fun r_8 u_9 u_10 u_11 => ⟨r_8, I, L, rfl, rfl, ?_⟩)
    have b_12 : 0 ≤ r_8.toInt ∧ r_8.toInt ≤ 1 := u_9.rg
    have l_13 : (0 : Int32).toInt = 0 := rfl
    refine ⟨fun c_14 => ?_, fun c_14 => ?_⟩
    · have d_15 := iEq c_14
      have se := u_7
      rw [hf (o + 2) (by first | omega | (dsimp only; omega)), show I o 3 = I0 o 3 from Int32.toInt_inj.mp (by omega)] at se
      have ex : (I o 6).toInt ≠ (I o 7).toInt := fun h => by rw [← Int32.toInt_inj.mp h] at se; have a := u_11 (by omega); have b := iEq se; omega
      have g_16 : (0 : Int) ≤ (I o 7).toInt ∧ (I o 7).toInt ≤ 1601 := hR.at0 ra 7 (by decide)
      have g_17 : (0 : Int) ≤ (I o 6).toInt ∧ (I o 6).toInt ≤ 1600 := hR.at0 ra 6 (by decide)
      have a_18 : ((I o 7) - (I o 6)).toInt = (I o 7).toInt - (I o 6).toInt := tSub (by omega) (by omega)
      have l_19 : (4 : Int32).toInt = 4 := rfl
      refine ⟨fun c_20 => ?_, fun c_20 => ?_⟩
      · have d_21 := iLt c_20
        unfold fModel_next_454
        unfold fModel_next_459
        have l_22 : (1 : Int32).toInt = 1 := rfl
        refine fun I_23 e_24 => ?_
        have hR_25 : RI R I_23 := hR.up0 ra (by decide) e_24 (i_lo _) (i_hi _)
        have hf_26 : Fm (fun c => c = o) I0 I_23 := hf.set (by first | rfl | omega | (dsimp only; omega)) e_24
        have t_27 : (I_23 o 6).toInt = (I o 6).toInt := by rw [← e_24, q_u_k (by decide)]
        have t_28 : (I_23 o 7).toInt = (I o 7).toInt := by rw [← e_24, q_u_k (by decide)]
        have t_29 : (I_23 o 8).toInt = (1 : Int32).toInt := by rw [← e_24, q_u_at]
        have t_30 : (I_23 o 9).toInt = (I o 9).toInt := by rw [← e_24, q_u_k (by decide)]
        have t_31 : (I_23 o 3).toInt = (I o 3).toInt := by rw [← e_24, q_u_k (by decide)]
        have t_32 : (I_23 o 4).toInt = (I o 4).toInt := by rw [← e_24, q_u_k (by decide)]
        have t_33 : (I_23 o 44).toInt = (I o 44).toInt := by rw [← e_24, q_u_k (by decide)]
        have t_34 : (I_23 o 45).toInt = (I o 45).toInt := by rw [← e_24, q_u_k (by decide)]
        have t_35 : (I_23 o 46).toInt = (I o 46).toInt := by rw [← e_24, q_u_k (by decide)]
        have t_36 : (I_23 o 47).toInt = (I o 47).toInt := by rw [← e_24, q_u_k (by decide)]
        have t_37 : (I_23 o 48).toInt = (I o 48).toInt := by rw [← e_24, q_u_k (by decide)]
        have t_38 : (I_23 o 49).toInt = (I o 49).toInt := by rw [← e_24, q_u_k (by decide)]
        exact (hp _ _ hR_25 hf_26 (by first | omega | (intro h; omega) | exact Or.inl rfl | exact Or.inr rfl) (by first | omega | (intro h; omega) | exact Or.inl rfl | exact Or.inr rfl) (by intro _; omega) (by intro _; omega) (by first | omega | (intro h; omega) | exact Or.inl rfl | exact Or.inr rfl) (by first | omega | (intro h; omega) | exact Or.inl rfl | exact Or.inr rfl) (by first | omega | (intro h; omega) | exact Or.inl rfl | exact Or.inr rfl) (by first | omega | (intro h; omega) | exact Or.inl rfl | exact Or.inr rfl) (by first | omega | (intro h; omega) | exact Or.inl rfl | exact Or.inr rfl) (by first | omega | (intro h; omega) | exact Or.inl rfl | exact Or.inr rfl) (by first | omega | (intro h; omega) | exact Or.inl rfl | exact Or.inr rfl) (by first | omega | (intro h; omega) | exact Or.inl rfl | exact Or.inr rfl))
      · have d_39 := iNlt c_20
        have g_40 : (0 : Int) ≤ (I o 7).toInt ∧ (I o 7).toInt ≤ 1601 := hR.at0 ra 7 (by decide)
        refine y_Model_sign hok hw ra (by first | omega | (intro h; omega) | exact Or.inl rfl | exact Or.inr rfl) hR (fun r_41 u_42 u_43 => ⟨r_41, I, L, rfl, rfl, ?_⟩)
        refine y_Model_isLetter hok hR (fun r_44 u_45 u_46 => ⟨r_44, I, L, rfl, rfl, ?_⟩)
        have b_47 : 0 ≤ r_44.toInt ∧ r_44.toInt ≤ 1 := u_45.rg
        refine ⟨fun c_48 => ?_, fun c_48 => ?_⟩
        · have d_49 := iEq c_48
          unfold fModel_next_459
          refine fun I_50 e_51 => ?_
          have hR_52 : RI R I_50 := hR.up0 ra (by decide) e_51 (i_lo _) (i_hi _)
          have hf_53 : Fm (fun c => c = o) I0 I_50 := hf.set (by first | rfl | omega | (dsimp only; omega)) e_51
          have t_54 : (I_50 o 6).toInt = (I o 6).toInt := by rw [← e_51, q_u_k (by decide)]
          have t_55 : (I_50 o 7).toInt = (I o 7).toInt := by rw [← e_51, q_u_k (by decide)]
          have t_56 : (I_50 o 8).toInt = (4 : Int32).toInt := by rw [← e_51, q_u_at]
          have t_57 : (I_50 o 9).toInt = (I o 9).toInt := by rw [← e_51, q_u_k (by decide)]
          have t_58 : (I_50 o 3).toInt = (I o 3).toInt := by rw [← e_51, q_u_k (by decide)]
          have t_59 : (I_50 o 4).toInt = (I o 4).toInt := by rw [← e_51, q_u_k (by decide)]
          have t_60 : (I_50 o 44).toInt = (I o 44).toInt := by rw [← e_51, q_u_k (by decide)]
          have t_61 : (I_50 o 45).toInt = (I o 45).toInt := by rw [← e_51, q_u_k (by decide)]
          have t_62 : (I_50 o 46).toInt = (I o 46).toInt := by rw [← e_51, q_u_k (by decide)]
          have t_63 : (I_50 o 47).toInt = (I o 47).toInt := by rw [← e_51, q_u_k (by decide)]
          have t_64 : (I_50 o 48).toInt = (I o 48).toInt := by rw [← e_51, q_u_k (by decide)]
          have t_65 : (I_50 o 49).toInt = (I o 49).toInt := by rw [← e_51, q_u_k (by decide)]
          exact (hp _ _ hR_52 hf_53 (by first | omega | (intro h; omega) | exact Or.inl rfl | exact Or.inr rfl) (by first | omega | (intro h; omega) | exact Or.inl rfl | exact Or.inr rfl) (by intro _; omega) (by intro _; omega) (by first | omega | (intro h; omega) | exact Or.inl rfl | exact Or.inr rfl) (by first | omega | (intro h; omega) | exact Or.inl rfl | exact Or.inr rfl) (by first | omega | (intro h; omega) | exact Or.inl rfl | exact Or.inr rfl) (by first | omega | (intro h; omega) | exact Or.inl rfl | exact Or.inr rfl) (by first | omega | (intro h; omega) | exact Or.inl rfl | exact Or.inr rfl) (by first | omega | (intro h; omega) | exact Or.inl rfl | exact Or.inr rfl) (by first | omega | (intro h; omega) | exact Or.inl rfl | exact Or.inr rfl) (by first | omega | (intro h; omega) | exact Or.inl rfl | exact Or.inr rfl))
        · have d_66 := iNe c_48
          unfold fModel_next_454
          unfold fModel_next_459
          have l_67 : (1 : Int32).toInt = 1 := rfl
          refine fun I_68 e_69 => ?_
          have hR_70 : RI R I_68 := hR.up0 ra (by decide) e_69 (i_lo _) (i_hi _)
          have hf_71 : Fm (fun c => c = o) I0 I_68 := hf.set (by first | rfl | omega | (dsimp only; omega)) e_69
          have t_72 : (I_68 o 6).toInt = (I o 6).toInt := by rw [← e_69, q_u_k (by decide)]
          have t_73 : (I_68 o 7).toInt = (I o 7).toInt := by rw [← e_69, q_u_k (by decide)]
          have t_74 : (I_68 o 8).toInt = (1 : Int32).toInt := by rw [← e_69, q_u_at]
          have t_75 : (I_68 o 9).toInt = (I o 9).toInt := by rw [← e_69, q_u_k (by decide)]
          have t_76 : (I_68 o 3).toInt = (I o 3).toInt := by rw [← e_69, q_u_k (by decide)]
          have t_77 : (I_68 o 4).toInt = (I o 4).toInt := by rw [← e_69, q_u_k (by decide)]
          have t_78 : (I_68 o 44).toInt = (I o 44).toInt := by rw [← e_69, q_u_k (by decide)]
          have t_79 : (I_68 o 45).toInt = (I o 45).toInt := by rw [← e_69, q_u_k (by decide)]
          have t_80 : (I_68 o 46).toInt = (I o 46).toInt := by rw [← e_69, q_u_k (by decide)]
          have t_81 : (I_68 o 47).toInt = (I o 47).toInt := by rw [← e_69, q_u_k (by decide)]
          have t_82 : (I_68 o 48).toInt = (I o 48).toInt := by rw [← e_69, q_u_k (by decide)]
          have t_83 : (I_68 o 49).toInt = (I o 49).toInt := by rw [← e_69, q_u_k (by decide)]
          exact (hp _ _ hR_70 hf_71 (by first | omega | (intro h; omega) | exact Or.inl rfl | exact Or.inr rfl) (by first | omega | (intro h; omega) | exact Or.inl rfl | exact Or.inr rfl) (by intro _; omega) (by intro _; omega) (by first | omega | (intro h; omega) | exact Or.inl rfl | exact Or.inr rfl) (by first | omega | (intro h; omega) | exact Or.inl rfl | exact Or.inr rfl) (by first | omega | (intro h; omega) | exact Or.inl rfl | exact Or.inr rfl) (by first | omega | (intro h; omega) | exact Or.inl rfl | exact Or.inr rfl) (by first | omega | (intro h; omega) | exact Or.inl rfl | exact Or.inr rfl) (by first | omega | (intro h; omega) | exact Or.inl rfl | exact Or.inr rfl) (by first | omega | (intro h; omega) | exact Or.inl rfl | exact Or.inr rfl) (by first | omega | (intro h; omega) | exact Or.inl rfl | exact Or.inr rfl))
    · have d_84 := iNe c_14
      have dl := u_6 (by have := u_10 (by omega); omega)
      have g_85 : (0 : Int) ≤ (I o 7).toInt ∧ (I o 7).toInt ≤ 1601 := hR.at0 ra 7 (by decide)
      have g_86 : (0 : Int) ≤ (I o 6).toInt ∧ (I o 6).toInt ≤ 1600 := hR.at0 ra 6 (by decide)
      have a_87 : ((I o 7) - (I o 6)).toInt = (I o 7).toInt - (I o 6).toInt := tSub (by omega) (by omega)
      have l_88 : (4 : Int32).toInt = 4 := rfl
      refine ⟨fun c_89 => ?_, fun c_89 => ?_⟩
      · have d_90 := iLe c_89
        unfold fModel_next_413
        have g_91 : (0 : Int) ≤ (I o 7).toInt ∧ (I o 7).toInt ≤ 1601 := hR.at0 ra 7 (by decide)
        have l_92 : (1 : Int32).toInt = 1 := rfl
        have a_93 : ((I o 7) + 1).toInt = (I o 7).toInt + (1 : Int32).toInt := tAdd (by omega) (by omega)
        refine fun I_94 e_95 => ?_
        have hR_96 : RI R I_94 := hR.up0 ra (by decide) e_95 (show (0 : Int) ≤ ((I o 7) + 1).toInt by omega) (show ((I o 7) + 1).toInt ≤ (1601 : Int) by omega)
        have hf_97 : Fm (fun c => c = o) I0 I_94 := hf.set (by first | rfl | omega | (dsimp only; omega)) e_95
        have t_98 : (I_94 o 6).toInt = (I o 6).toInt := by rw [← e_95, q_u_k (by decide)]
        have t_99 : (I_94 o 7).toInt = ((I o 7) + 1).toInt := by rw [← e_95, q_u_at]
        have t_100 : (I_94 o 8).toInt = (I o 8).toInt := by rw [← e_95, q_u_k (by decide)]
        have t_101 : (I_94 o 9).toInt = (I o 9).toInt := by rw [← e_95, q_u_k (by decide)]
        have t_102 : (I_94 o 3).toInt = (I o 3).toInt := by rw [← e_95, q_u_k (by decide)]
        have t_103 : (I_94 o 4).toInt = (I o 4).toInt := by rw [← e_95, q_u_k (by decide)]
        have t_104 : (I_94 o 44).toInt = (I o 44).toInt := by rw [← e_95, q_u_k (by decide)]
        have t_105 : (I_94 o 45).toInt = (I o 45).toInt := by rw [← e_95, q_u_k (by decide)]
        have t_106 : (I_94 o 46).toInt = (I o 46).toInt := by rw [← e_95, q_u_k (by decide)]
        have t_107 : (I_94 o 47).toInt = (I o 47).toInt := by rw [← e_95, q_u_k (by decide)]
        have t_108 : (I_94 o 48).toInt = (I o 48).toInt := by rw [← e_95, q_u_k (by decide)]
        have t_109 : (I_94 o 49).toInt = (I o 49).toInt := by rw [← e_95, q_u_k (by decide)]
        exact ih hR_96 hf_97 (by first | omega | (intro h; omega) | exact Or.inl rfl | exact Or.inr rfl) (by first | omega | (intro h; omega) | exact Or.inl rfl | exact Or.inr rfl) (by first | exact sgLo sc (by omega) (by omega) | exact sgLo (a := I o 6) rfl (by omega) (by omega)) (by first | exact sgHi sc (by omega) (by omega) | exact sgHi (a := I o 6) rfl (by omega) (by omega)) (by first | omega | (intro h; omega) | exact Or.inl rfl | exact Or.inr rfl) (by first | omega | (intro h; omega) | exact Or.inl rfl | exact Or.inr rfl) (by first | omega | (intro h; omega) | exact Or.inl rfl | exact Or.inr rfl) (by first | omega | (intro h; omega) | exact Or.inl rfl | exact Or.inr rfl) (by first | omega | (intro h; omega) | exact Or.inl rfl | exact Or.inr rfl) (by first | omega | (intro h; omega) | exact Or.inl rfl | exact Or.inr rfl) (by first | omega | (intro h; omega) | exact Or.inl rfl | exact Or.inr rfl) (by first | omega | (intro h; omega) | exact Or.inl rfl | exact Or.inr rfl) (by first | omega | (intro h; omega) | exact Or.inl rfl | exact Or.inr rfl) (by omega)
      · have d_110 := iNle c_89
        have g_111 : (0 : Int) ≤ (I o 7).toInt ∧ (I o 7).toInt ≤ 1601 := hR.at0 ra 7 (by decide)
        refine y_Model_sign hok hw ra (by first | omega | (intro h; omega) | exact Or.inl rfl | exact Or.inr rfl) hR (fun r_112 u_113 u_114 => ⟨r_112, I, L, rfl, rfl, ?_⟩)
        refine fun I_115 e_116 => ?_
        have hR_117 : RI R I_115 := hR.up0 ra (by decide) e_116 (i_lo _) (i_hi _)
        have hf_118 : Fm (fun c => c = o) I0 I_115 := hf.set (by first | rfl | omega | (dsimp only; omega)) e_116
        have t_119 : (I_115 o 6).toInt = (I o 6).toInt := by rw [← e_116, q_u_k (by decide)]
        have t_120 : (I_115 o 7).toInt = (I o 7).toInt := by rw [← e_116, q_u_k (by decide)]
        have t_121 : (I_115 o 8).toInt = (I o 8).toInt := by rw [← e_116, q_u_k (by decide)]
        have t_122 : (I_115 o 9).toInt = (((10 * (I o 9)) + r_112) - 48).toInt := by rw [← e_116, q_u_at]
        have t_123 : (I_115 o 3).toInt = (I o 3).toInt := by rw [← e_116, q_u_k (by decide)]
        have t_124 : (I_115 o 4).toInt = (I o 4).toInt := by rw [← e_116, q_u_k (by decide)]
        have t_125 : (I_115 o 44).toInt = (I o 44).toInt := by rw [← e_116, q_u_k (by decide)]
        have t_126 : (I_115 o 45).toInt = (I o 45).toInt := by rw [← e_116, q_u_k (by decide)]
        have t_127 : (I_115 o 46).toInt = (I o 46).toInt := by rw [← e_116, q_u_k (by decide)]
        have t_128 : (I_115 o 47).toInt = (I o 47).toInt := by rw [← e_116, q_u_k (by decide)]
        have t_129 : (I_115 o 48).toInt = (I o 48).toInt := by rw [← e_116, q_u_k (by decide)]
        have t_130 : (I_115 o 49).toInt = (I o 49).toInt := by rw [← e_116, q_u_k (by decide)]
        unfold fModel_next_413
        have g_131 : (0 : Int) ≤ (I_115 o 7).toInt ∧ (I_115 o 7).toInt ≤ 1601 := hR_117.at0 ra 7 (by decide)
        have l_132 : (1 : Int32).toInt = 1 := rfl
        have a_133 : ((I_115 o 7) + 1).toInt = (I_115 o 7).toInt + (1 : Int32).toInt := tAdd (by omega) (by omega)
        refine fun I_134 e_135 => ?_
        have hR_136 : RI R I_134 := hR_117.up0 ra (by decide) e_135 (show (0 : Int) ≤ ((I_115 o 7) + 1).toInt by omega) (show ((I_115 o 7) + 1).toInt ≤ (1601 : Int) by omega)
        have hf_137 : Fm (fun c => c = o) I0 I_134 := hf_118.set (by first | rfl | omega | (dsimp only; omega)) e_135
        have t_138 : (I_134 o 6).toInt = (I_115 o 6).toInt := by rw [← e_135, q_u_k (by decide)]
        have t_139 : (I_134 o 7).toInt = ((I_115 o 7) + 1).toInt := by rw [← e_135, q_u_at]
        have t_140 : (I_134 o 8).toInt = (I_115 o 8).toInt := by rw [← e_135, q_u_k (by decide)]
        have t_141 : (I_134 o 9).toInt = (I_115 o 9).toInt := by rw [← e_135, q_u_k (by decide)]
        have t_142 : (I_134 o 3).toInt = (I_115 o 3).toInt := by rw [← e_135, q_u_k (by decide)]
        have t_143 : (I_134 o 4).toInt = (I_115 o 4).toInt := by rw [← e_135, q_u_k (by decide)]
        have t_144 : (I_134 o 44).toInt = (I_115 o 44).toInt := by rw [← e_135, q_u_k (by decide)]
        have t_145 : (I_134 o 45).toInt = (I_115 o 45).toInt := by rw [← e_135, q_u_k (by decide)]
        have t_146 : (I_134 o 46).toInt = (I_115 o 46).toInt := by rw [← e_135, q_u_k (by decide)]
        have t_147 : (I_134 o 47).toInt = (I_115 o 47).toInt := by rw [← e_135, q_u_k (by decide)]
        have t_148 : (I_134 o 48).toInt = (I_115 o 48).toInt := by rw [← e_135, q_u_k (by decide)]
        have t_149 : (I_134 o 49).toInt = (I_115 o 49).toInt := by rw [← e_135, q_u_k (by decide)]
        exact ih hR_136 hf_137 (by first | omega | (intro h; omega) | exact Or.inl rfl | exact Or.inr rfl) (by first | omega | (intro h; omega) | exact Or.inl rfl | exact Or.inr rfl) (by first | exact sgLo sc (by omega) (by omega) | exact sgLo (a := I o 6) rfl (by omega) (by omega)) (by first | exact sgHi sc (by omega) (by omega) | exact sgHi (a := I o 6) rfl (by omega) (by omega)) (by first | omega | (intro h; omega) | exact Or.inl rfl | exact Or.inr rfl) (by first | omega | (intro h; omega) | exact Or.inl rfl | exact Or.inr rfl) (by first | omega | (intro h; omega) | exact Or.inl rfl | exact Or.inr rfl) (by first | omega | (intro h; omega) | exact Or.inl rfl | exact Or.inr rfl) (by first | omega | (intro h; omega) | exact Or.inl rfl | exact Or.inr rfl) (by first | omega | (intro h; omega) | exact Or.inl rfl | exact Or.inr rfl) (by first | omega | (intro h; omega) | exact Or.inl rfl | exact Or.inr rfl) (by first | omega | (intro h; omega) | exact Or.inl rfl | exact Or.inr rfl) (by first | omega | (intro h; omega) | exact Or.inl rfl | exact Or.inr rfl) (by omega)
set_option maxHeartbeats 4000000 in
set_option maxRecDepth 20000 in
theorem yModel_next_260 {D : va_G} {cA : FieldType → ClassId} {b : Nat} {E : State → Prop} {R : qRg} {o n : Nat} {sh : Nat → qC} {Rf : Nat → Nat → Option Nat} {I0 : Nat → Nat → Int32} {L0 : Nat → Nat → Int64} {post : Option Value → qS → Prop} (hok : q_ok (qGG D cA b E)) (hw : WfModel (qGG D cA b E) n sh Rf o) (ra : RAModel R o) (hq0 : (I0 o 7).toInt ≤ (I0 o 3).toInt) (hp : ∀ (I' : Nat → Nat → Int32) (L' : Nat → Nat → Int64), RI R I' → Fm (fun c => c = o) I0 I' → ((I' o 7).toInt ≤ (I' o 3).toInt) → ((I0 o 7).toInt ≤ (I' o 7).toInt) → (Im ((I' o 8).toInt ≠ 0) ((I0 o 7).toInt < (I' o 7).toInt)) → (Im ((I' o 8).toInt = 5) (0 ≤ (I' o 9).toInt ∧ (I' o 9).toInt ≤ 15)) → ((I' o 3).toInt = (I0 o 3).toInt) → ((I' o 4).toInt = (I0 o 4).toInt) → ((I' o 44).toInt = (I0 o 44).toInt) → ((I' o 45).toInt = (I0 o 45).toInt) → ((I' o 46).toInt = (I0 o 46).toInt) → ((I' o 47).toInt = (I0 o 47).toInt) → ((I' o 48).toInt = (I0 o 48).toInt) → ((I' o 49).toInt = (I0 o 49).toInt) → post none (n, sh, Rf, I', L')) : ∀ (k : Nat) {x1 : Int32} {x2 : Int32} {I : Nat → Nat → Int32} {L : Nat → Nat → Int64}, RI R I → Fm (fun c => c = o) I0 I → ((0 : Int) ≤ x2.toInt ∧ x2.toInt ≤ 1601) → ((I0 o 7).toInt ≤ (I o 6).toInt) → ((I o 6).toInt < (I o 7).toInt) → ((I o 7).toInt ≤ (I o 3).toInt) → ((I o 3).toInt = (I0 o 3).toInt) → ((I o 4).toInt = (I0 o 4).toInt) → ((I o 44).toInt = (I0 o 44).toInt) → ((I o 45).toInt = (I0 o 45).toInt) → ((I o 46).toInt = (I0 o 46).toInt) → ((I o 47).toInt = (I0 o 47).toInt) → ((I o 48).toInt = (I0 o 48).toInt) → ((I o 49).toInt = (I0 o 49).toInt) → (1601 - x2.toInt).toNat < k → Ev (qGG D cA b E) mModel_next 2 (0, 0) 260 [(0, .ref o), (1, .int x1), (2, .int x2)] [] (n, sh, Rf, I, L) post := by
  intro k
  induction k with
  | zero =>
    intro x1 x2 I L hR hf hi0 hi1 hi2 hi3 hi4 hi5 hi6 hi7 hi8 hi9 hi10 hi11 hm
    exact absurd hm (Nat.not_lt_zero _)
  | succ k ih =>
    intro x1 x2 I L hR hf hi0 hi1 hi2 hi3 hi4 hi5 hi6 hi7 hi8 hi9 hi10 hi11 hm
    have g_150 : (0 : Int) ≤ (I o 6).toInt ∧ (I o 6).toInt ≤ 1600 := hR.at0 ra 6 (by decide)
    have g_151 : (0 : Int) ≤ (I o 7).toInt ∧ (I o 7).toInt ≤ 1601 := hR.at0 ra 7 (by decide)
    have g_152 : (0 : Int) ≤ (I o 3).toInt ∧ (I o 3).toInt ≤ 1600 := hR.at0 ra 3 (by decide)
    refine sModel_next_260 o n sh Rf I L post x1 x2 hok hw ?_
    unfold fModel_next_260
    have g_153 : (0 : Int) ≤ (I o 7).toInt ∧ (I o 7).toInt ≤ 1601 := hR.at0 ra 7 (by decide)
    refine ⟨fun c_154 => ?_, fun c_154 => ?_⟩
    · have d_155 := iLe c_154
      unfold fModel_next_303
      have g_156 : (0 : Int) ≤ (I o 7).toInt ∧ (I o 7).toInt ≤ 1601 := hR.at0 ra 7 (by decide)
      have g_157 : (0 : Int) ≤ (I o 6).toInt ∧ (I o 6).toInt ≤ 1600 := hR.at0 ra 6 (by decide)
      have a_158 : ((I o 7) - (I o 6)).toInt = (I o 7).toInt - (I o 6).toInt := tSub (by omega) (by omega)
      have l_159 : (8 : Int32).toInt = 8 := rfl
      refine ⟨fun c_160 => ?_, fun c_160 => ?_⟩
      · have d_161 := iLe c_160
        refine y_Model_isKept hok hR (fun r_162 u_163 => ⟨r_162, I, L, rfl, rfl, ?_⟩)
        have b_164 : 0 ≤ r_162.toInt ∧ r_162.toInt ≤ 1 := u_163.rg
        have l_165 : (0 : Int32).toInt = 0 := rfl
        refine ⟨fun c_166 => ?_, fun c_166 => ?_⟩
        · have d_167 := iEq c_166
          unfold fModel_next_337
          have l_168 : (2 : Int32).toInt = 2 := rfl
          refine fun I_169 e_170 => ?_
          have hR_171 : RI R I_169 := hR.up0 ra (by decide) e_170 (i_lo _) (i_hi _)
          have hf_172 : Fm (fun c => c = o) I0 I_169 := hf.set (by first | rfl | omega | (dsimp only; omega)) e_170
          have t_173 : (I_169 o 6).toInt = (I o 6).toInt := by rw [← e_170, q_u_k (by decide)]
          have t_174 : (I_169 o 7).toInt = (I o 7).toInt := by rw [← e_170, q_u_k (by decide)]
          have t_175 : (I_169 o 8).toInt = (2 : Int32).toInt := by rw [← e_170, q_u_at]
          have t_176 : (I_169 o 9).toInt = (I o 9).toInt := by rw [← e_170, q_u_k (by decide)]
          have t_177 : (I_169 o 3).toInt = (I o 3).toInt := by rw [← e_170, q_u_k (by decide)]
          have t_178 : (I_169 o 4).toInt = (I o 4).toInt := by rw [← e_170, q_u_k (by decide)]
          have t_179 : (I_169 o 44).toInt = (I o 44).toInt := by rw [← e_170, q_u_k (by decide)]
          have t_180 : (I_169 o 45).toInt = (I o 45).toInt := by rw [← e_170, q_u_k (by decide)]
          have t_181 : (I_169 o 46).toInt = (I o 46).toInt := by rw [← e_170, q_u_k (by decide)]
          have t_182 : (I_169 o 47).toInt = (I o 47).toInt := by rw [← e_170, q_u_k (by decide)]
          have t_183 : (I_169 o 48).toInt = (I o 48).toInt := by rw [← e_170, q_u_k (by decide)]
          have t_184 : (I_169 o 49).toInt = (I o 49).toInt := by rw [← e_170, q_u_k (by decide)]
          exact (hp _ _ hR_171 hf_172 (by first | omega | (intro h; omega) | exact Or.inl rfl | exact Or.inr rfl) (by first | omega | (intro h; omega) | exact Or.inl rfl | exact Or.inr rfl) (by intro _; omega) (by intro _; omega) (by first | omega | (intro h; omega) | exact Or.inl rfl | exact Or.inr rfl) (by first | omega | (intro h; omega) | exact Or.inl rfl | exact Or.inr rfl) (by first | omega | (intro h; omega) | exact Or.inl rfl | exact Or.inr rfl) (by first | omega | (intro h; omega) | exact Or.inl rfl | exact Or.inr rfl) (by first | omega | (intro h; omega) | exact Or.inl rfl | exact Or.inr rfl) (by first | omega | (intro h; omega) | exact Or.inl rfl | exact Or.inr rfl) (by first | omega | (intro h; omega) | exact Or.inl rfl | exact Or.inr rfl) (by first | omega | (intro h; omega) | exact Or.inl rfl | exact Or.inr rfl))
        · have d_185 := iNe c_166
          unfold fModel_next_337
          have l_186 : (3 : Int32).toInt = 3 := rfl
          refine fun I_187 e_188 => ?_
          have hR_189 : RI R I_187 := hR.up0 ra (by decide) e_188 (i_lo _) (i_hi _)
          have hf_190 : Fm (fun c => c = o) I0 I_187 := hf.set (by first | rfl | omega | (dsimp only; omega)) e_188
          have t_191 : (I_187 o 6).toInt = (I o 6).toInt := by rw [← e_188, q_u_k (by decide)]
          have t_192 : (I_187 o 7).toInt = (I o 7).toInt := by rw [← e_188, q_u_k (by decide)]
          have t_193 : (I_187 o 8).toInt = (3 : Int32).toInt := by rw [← e_188, q_u_at]
          have t_194 : (I_187 o 9).toInt = (I o 9).toInt := by rw [← e_188, q_u_k (by decide)]
          have t_195 : (I_187 o 3).toInt = (I o 3).toInt := by rw [← e_188, q_u_k (by decide)]
          have t_196 : (I_187 o 4).toInt = (I o 4).toInt := by rw [← e_188, q_u_k (by decide)]
          have t_197 : (I_187 o 44).toInt = (I o 44).toInt := by rw [← e_188, q_u_k (by decide)]
          have t_198 : (I_187 o 45).toInt = (I o 45).toInt := by rw [← e_188, q_u_k (by decide)]
          have t_199 : (I_187 o 46).toInt = (I o 46).toInt := by rw [← e_188, q_u_k (by decide)]
          have t_200 : (I_187 o 47).toInt = (I o 47).toInt := by rw [← e_188, q_u_k (by decide)]
          have t_201 : (I_187 o 48).toInt = (I o 48).toInt := by rw [← e_188, q_u_k (by decide)]
          have t_202 : (I_187 o 49).toInt = (I o 49).toInt := by rw [← e_188, q_u_k (by decide)]
          exact (hp _ _ hR_189 hf_190 (by first | omega | (intro h; omega) | exact Or.inl rfl | exact Or.inr rfl) (by first | omega | (intro h; omega) | exact Or.inl rfl | exact Or.inr rfl) (by intro _; omega) (by intro _; omega) (by first | omega | (intro h; omega) | exact Or.inl rfl | exact Or.inr rfl) (by first | omega | (intro h; omega) | exact Or.inl rfl | exact Or.inr rfl) (by first | omega | (intro h; omega) | exact Or.inl rfl | exact Or.inr rfl) (by first | omega | (intro h; omega) | exact Or.inl rfl | exact Or.inr rfl) (by first | omega | (intro h; omega) | exact Or.inl rfl | exact Or.inr rfl) (by first | omega | (intro h; omega) | exact Or.inl rfl | exact Or.inr rfl) (by first | omega | (intro h; omega) | exact Or.inl rfl | exact Or.inr rfl) (by first | omega | (intro h; omega) | exact Or.inl rfl | exact Or.inr rfl))
      · have d_203 := iNle c_160
        unfold fModel_next_337
        have l_204 : (1 : Int32).toInt = 1 := rfl
        refine fun I_205 e_206 => ?_
        have hR_207 : RI R I_205 := hR.up0 ra (by decide) e_206 (i_lo _) (i_hi _)
        have hf_208 : Fm (fun c => c = o) I0 I_205 := hf.set (by first | rfl | omega | (dsimp only; omega)) e_206
        have t_209 : (I_205 o 6).toInt = (I o 6).toInt := by rw [← e_206, q_u_k (by decide)]
        have t_210 : (I_205 o 7).toInt = (I o 7).toInt := by rw [← e_206, q_u_k (by decide)]
        have t_211 : (I_205 o 8).toInt = (1 : Int32).toInt := by rw [← e_206, q_u_at]
        have t_212 : (I_205 o 9).toInt = (I o 9).toInt := by rw [← e_206, q_u_k (by decide)]
        have t_213 : (I_205 o 3).toInt = (I o 3).toInt := by rw [← e_206, q_u_k (by decide)]
        have t_214 : (I_205 o 4).toInt = (I o 4).toInt := by rw [← e_206, q_u_k (by decide)]
        have t_215 : (I_205 o 44).toInt = (I o 44).toInt := by rw [← e_206, q_u_k (by decide)]
        have t_216 : (I_205 o 45).toInt = (I o 45).toInt := by rw [← e_206, q_u_k (by decide)]
        have t_217 : (I_205 o 46).toInt = (I o 46).toInt := by rw [← e_206, q_u_k (by decide)]
        have t_218 : (I_205 o 47).toInt = (I o 47).toInt := by rw [← e_206, q_u_k (by decide)]
        have t_219 : (I_205 o 48).toInt = (I o 48).toInt := by rw [← e_206, q_u_k (by decide)]
        have t_220 : (I_205 o 49).toInt = (I o 49).toInt := by rw [← e_206, q_u_k (by decide)]
        exact (hp _ _ hR_207 hf_208 (by first | omega | (intro h; omega) | exact Or.inl rfl | exact Or.inr rfl) (by first | omega | (intro h; omega) | exact Or.inl rfl | exact Or.inr rfl) (by intro _; omega) (by intro _; omega) (by first | omega | (intro h; omega) | exact Or.inl rfl | exact Or.inr rfl) (by first | omega | (intro h; omega) | exact Or.inl rfl | exact Or.inr rfl) (by first | omega | (intro h; omega) | exact Or.inl rfl | exact Or.inr rfl) (by first | omega | (intro h; omega) | exact Or.inl rfl | exact Or.inr rfl) (by first | omega | (intro h; omega) | exact Or.inl rfl | exact Or.inr rfl) (by first | omega | (intro h; omega) | exact Or.inl rfl | exact Or.inr rfl) (by first | omega | (intro h; omega) | exact Or.inl rfl | exact Or.inr rfl) (by first | omega | (intro h; omega) | exact Or.inl rfl | exact Or.inr rfl))
    · have d_221 := iNle c_154
      have g_222 : (0 : Int) ≤ (I o 6).toInt ∧ (I o 6).toInt ≤ 1600 := hR.at0 ra 6 (by decide)
      have l_223 : (8 : Int32).toInt = 8 := rfl
      have a_224 : ((I o 6) + 8).toInt = (I o 6).toInt + (8 : Int32).toInt := tAdd (by omega) (by omega)
      refine ⟨fun c_225 => ?_, fun c_225 => ?_⟩
      · have d_226 := iLe c_225
        unfold fModel_next_303
        have g_227 : (0 : Int) ≤ (I o 7).toInt ∧ (I o 7).toInt ≤ 1601 := hR.at0 ra 7 (by decide)
        have g_228 : (0 : Int) ≤ (I o 6).toInt ∧ (I o 6).toInt ≤ 1600 := hR.at0 ra 6 (by decide)
        have a_229 : ((I o 7) - (I o 6)).toInt = (I o 7).toInt - (I o 6).toInt := tSub (by omega) (by omega)
        refine ⟨fun c_230 => ?_, fun c_230 => ?_⟩
        · have d_231 := iLe c_230
          refine y_Model_isKept hok hR (fun r_232 u_233 => ⟨r_232, I, L, rfl, rfl, ?_⟩)
          have b_234 : 0 ≤ r_232.toInt ∧ r_232.toInt ≤ 1 := u_233.rg
          have l_235 : (0 : Int32).toInt = 0 := rfl
          refine ⟨fun c_236 => ?_, fun c_236 => ?_⟩
          · have d_237 := iEq c_236
            unfold fModel_next_337
            have l_238 : (2 : Int32).toInt = 2 := rfl
            refine fun I_239 e_240 => ?_
            have hR_241 : RI R I_239 := hR.up0 ra (by decide) e_240 (i_lo _) (i_hi _)
            have hf_242 : Fm (fun c => c = o) I0 I_239 := hf.set (by first | rfl | omega | (dsimp only; omega)) e_240
            have t_243 : (I_239 o 6).toInt = (I o 6).toInt := by rw [← e_240, q_u_k (by decide)]
            have t_244 : (I_239 o 7).toInt = (I o 7).toInt := by rw [← e_240, q_u_k (by decide)]
            have t_245 : (I_239 o 8).toInt = (2 : Int32).toInt := by rw [← e_240, q_u_at]
            have t_246 : (I_239 o 9).toInt = (I o 9).toInt := by rw [← e_240, q_u_k (by decide)]
            have t_247 : (I_239 o 3).toInt = (I o 3).toInt := by rw [← e_240, q_u_k (by decide)]
            have t_248 : (I_239 o 4).toInt = (I o 4).toInt := by rw [← e_240, q_u_k (by decide)]
            have t_249 : (I_239 o 44).toInt = (I o 44).toInt := by rw [← e_240, q_u_k (by decide)]
            have t_250 : (I_239 o 45).toInt = (I o 45).toInt := by rw [← e_240, q_u_k (by decide)]
            have t_251 : (I_239 o 46).toInt = (I o 46).toInt := by rw [← e_240, q_u_k (by decide)]
            have t_252 : (I_239 o 47).toInt = (I o 47).toInt := by rw [← e_240, q_u_k (by decide)]
            have t_253 : (I_239 o 48).toInt = (I o 48).toInt := by rw [← e_240, q_u_k (by decide)]
            have t_254 : (I_239 o 49).toInt = (I o 49).toInt := by rw [← e_240, q_u_k (by decide)]
            exact (hp _ _ hR_241 hf_242 (by first | omega | (intro h; omega) | exact Or.inl rfl | exact Or.inr rfl) (by first | omega | (intro h; omega) | exact Or.inl rfl | exact Or.inr rfl) (by intro _; omega) (by intro _; omega) (by first | omega | (intro h; omega) | exact Or.inl rfl | exact Or.inr rfl) (by first | omega | (intro h; omega) | exact Or.inl rfl | exact Or.inr rfl) (by first | omega | (intro h; omega) | exact Or.inl rfl | exact Or.inr rfl) (by first | omega | (intro h; omega) | exact Or.inl rfl | exact Or.inr rfl) (by first | omega | (intro h; omega) | exact Or.inl rfl | exact Or.inr rfl) (by first | omega | (intro h; omega) | exact Or.inl rfl | exact Or.inr rfl) (by first | omega | (intro h; omega) | exact Or.inl rfl | exact Or.inr rfl) (by first | omega | (intro h; omega) | exact Or.inl rfl | exact Or.inr rfl))
          · have d_255 := iNe c_236
            unfold fModel_next_337
            have l_256 : (3 : Int32).toInt = 3 := rfl
            refine fun I_257 e_258 => ?_
            have hR_259 : RI R I_257 := hR.up0 ra (by decide) e_258 (i_lo _) (i_hi _)
            have hf_260 : Fm (fun c => c = o) I0 I_257 := hf.set (by first | rfl | omega | (dsimp only; omega)) e_258
            have t_261 : (I_257 o 6).toInt = (I o 6).toInt := by rw [← e_258, q_u_k (by decide)]
            have t_262 : (I_257 o 7).toInt = (I o 7).toInt := by rw [← e_258, q_u_k (by decide)]
            have t_263 : (I_257 o 8).toInt = (3 : Int32).toInt := by rw [← e_258, q_u_at]
            have t_264 : (I_257 o 9).toInt = (I o 9).toInt := by rw [← e_258, q_u_k (by decide)]
            have t_265 : (I_257 o 3).toInt = (I o 3).toInt := by rw [← e_258, q_u_k (by decide)]
            have t_266 : (I_257 o 4).toInt = (I o 4).toInt := by rw [← e_258, q_u_k (by decide)]
            have t_267 : (I_257 o 44).toInt = (I o 44).toInt := by rw [← e_258, q_u_k (by decide)]
            have t_268 : (I_257 o 45).toInt = (I o 45).toInt := by rw [← e_258, q_u_k (by decide)]
            have t_269 : (I_257 o 46).toInt = (I o 46).toInt := by rw [← e_258, q_u_k (by decide)]
            have t_270 : (I_257 o 47).toInt = (I o 47).toInt := by rw [← e_258, q_u_k (by decide)]
            have t_271 : (I_257 o 48).toInt = (I o 48).toInt := by rw [← e_258, q_u_k (by decide)]
            have t_272 : (I_257 o 49).toInt = (I o 49).toInt := by rw [← e_258, q_u_k (by decide)]
            exact (hp _ _ hR_259 hf_260 (by first | omega | (intro h; omega) | exact Or.inl rfl | exact Or.inr rfl) (by first | omega | (intro h; omega) | exact Or.inl rfl | exact Or.inr rfl) (by intro _; omega) (by intro _; omega) (by first | omega | (intro h; omega) | exact Or.inl rfl | exact Or.inr rfl) (by first | omega | (intro h; omega) | exact Or.inl rfl | exact Or.inr rfl) (by first | omega | (intro h; omega) | exact Or.inl rfl | exact Or.inr rfl) (by first | omega | (intro h; omega) | exact Or.inl rfl | exact Or.inr rfl) (by first | omega | (intro h; omega) | exact Or.inl rfl | exact Or.inr rfl) (by first | omega | (intro h; omega) | exact Or.inl rfl | exact Or.inr rfl) (by first | omega | (intro h; omega) | exact Or.inl rfl | exact Or.inr rfl) (by first | omega | (intro h; omega) | exact Or.inl rfl | exact Or.inr rfl))
        · have d_273 := iNle c_230
          unfold fModel_next_337
          have l_274 : (1 : Int32).toInt = 1 := rfl
          refine fun I_275 e_276 => ?_
          have hR_277 : RI R I_275 := hR.up0 ra (by decide) e_276 (i_lo _) (i_hi _)
          have hf_278 : Fm (fun c => c = o) I0 I_275 := hf.set (by first | rfl | omega | (dsimp only; omega)) e_276
          have t_279 : (I_275 o 6).toInt = (I o 6).toInt := by rw [← e_276, q_u_k (by decide)]
          have t_280 : (I_275 o 7).toInt = (I o 7).toInt := by rw [← e_276, q_u_k (by decide)]
          have t_281 : (I_275 o 8).toInt = (1 : Int32).toInt := by rw [← e_276, q_u_at]
          have t_282 : (I_275 o 9).toInt = (I o 9).toInt := by rw [← e_276, q_u_k (by decide)]
          have t_283 : (I_275 o 3).toInt = (I o 3).toInt := by rw [← e_276, q_u_k (by decide)]
          have t_284 : (I_275 o 4).toInt = (I o 4).toInt := by rw [← e_276, q_u_k (by decide)]
          have t_285 : (I_275 o 44).toInt = (I o 44).toInt := by rw [← e_276, q_u_k (by decide)]
          have t_286 : (I_275 o 45).toInt = (I o 45).toInt := by rw [← e_276, q_u_k (by decide)]
          have t_287 : (I_275 o 46).toInt = (I o 46).toInt := by rw [← e_276, q_u_k (by decide)]
          have t_288 : (I_275 o 47).toInt = (I o 47).toInt := by rw [← e_276, q_u_k (by decide)]
          have t_289 : (I_275 o 48).toInt = (I o 48).toInt := by rw [← e_276, q_u_k (by decide)]
          have t_290 : (I_275 o 49).toInt = (I o 49).toInt := by rw [← e_276, q_u_k (by decide)]
          exact (hp _ _ hR_277 hf_278 (by first | omega | (intro h; omega) | exact Or.inl rfl | exact Or.inr rfl) (by first | omega | (intro h; omega) | exact Or.inl rfl | exact Or.inr rfl) (by intro _; omega) (by intro _; omega) (by first | omega | (intro h; omega) | exact Or.inl rfl | exact Or.inr rfl) (by first | omega | (intro h; omega) | exact Or.inl rfl | exact Or.inr rfl) (by first | omega | (intro h; omega) | exact Or.inl rfl | exact Or.inr rfl) (by first | omega | (intro h; omega) | exact Or.inl rfl | exact Or.inr rfl) (by first | omega | (intro h; omega) | exact Or.inl rfl | exact Or.inr rfl) (by first | omega | (intro h; omega) | exact Or.inl rfl | exact Or.inr rfl) (by first | omega | (intro h; omega) | exact Or.inl rfl | exact Or.inr rfl) (by first | omega | (intro h; omega) | exact Or.inl rfl | exact Or.inr rfl))
      · have d_291 := iNle c_225
        refine y_Model_sign hok hw ra (by first | omega | (intro h; omega) | exact Or.inl rfl | exact Or.inr rfl) hR (fun r_292 u_293 u_294 => ⟨r_292, I, L, rfl, rfl, ?_⟩)
        refine fun L_295 e_296 => ?_
        have a_298 : (x2 + Int32.ofInt 1).toInt = x2.toInt + (1) := tIc (by omega) (by omega) (by decide) (by decide)
        generalize ez_297 : (x2 + Int32.ofInt 1) = z_297 at a_298 ⊢
        exact ih hR hf (by first | omega | (intro h; omega) | exact Or.inl rfl | exact Or.inr rfl) (by first | omega | (intro h; omega) | exact Or.inl rfl | exact Or.inr rfl) (by first | omega | (intro h; omega) | exact Or.inl rfl | exact Or.inr rfl) (by first | omega | (intro h; omega) | exact Or.inl rfl | exact Or.inr rfl) (by first | omega | (intro h; omega) | exact Or.inl rfl | exact Or.inr rfl) (by first | omega | (intro h; omega) | exact Or.inl rfl | exact Or.inr rfl) (by first | omega | (intro h; omega) | exact Or.inl rfl | exact Or.inr rfl) (by first | omega | (intro h; omega) | exact Or.inl rfl | exact Or.inr rfl) (by first | omega | (intro h; omega) | exact Or.inl rfl | exact Or.inr rfl) (by first | omega | (intro h; omega) | exact Or.inl rfl | exact Or.inr rfl) (by first | omega | (intro h; omega) | exact Or.inl rfl | exact Or.inr rfl) (by first | omega | (intro h; omega) | exact Or.inl rfl | exact Or.inr rfl) (by omega)
set_option maxHeartbeats 4000000 in
set_option maxRecDepth 20000 in
theorem yModel_next_223 {D : va_G} {cA : FieldType → ClassId} {b : Nat} {E : State → Prop} {R : qRg} {o n : Nat} {sh : Nat → qC} {Rf : Nat → Nat → Option Nat} {I0 : Nat → Nat → Int32} {L0 : Nat → Nat → Int64} {post : Option Value → qS → Prop} (hok : q_ok (qGG D cA b E)) (hw : WfModel (qGG D cA b E) n sh Rf o) (ra : RAModel R o) (hq0 : (I0 o 7).toInt ≤ (I0 o 3).toInt) (hp : ∀ (I' : Nat → Nat → Int32) (L' : Nat → Nat → Int64), RI R I' → Fm (fun c => c = o) I0 I' → ((I' o 7).toInt ≤ (I' o 3).toInt) → ((I0 o 7).toInt ≤ (I' o 7).toInt) → (Im ((I' o 8).toInt ≠ 0) ((I0 o 7).toInt < (I' o 7).toInt)) → (Im ((I' o 8).toInt = 5) (0 ≤ (I' o 9).toInt ∧ (I' o 9).toInt ≤ 15)) → ((I' o 3).toInt = (I0 o 3).toInt) → ((I' o 4).toInt = (I0 o 4).toInt) → ((I' o 44).toInt = (I0 o 44).toInt) → ((I' o 45).toInt = (I0 o 45).toInt) → ((I' o 46).toInt = (I0 o 46).toInt) → ((I' o 47).toInt = (I0 o 47).toInt) → ((I' o 48).toInt = (I0 o 48).toInt) → ((I' o 49).toInt = (I0 o 49).toInt) → post none (n, sh, Rf, I', L')) : ∀ (k : Nat) {x1 : Int32} {I : Nat → Nat → Int32} {L : Nat → Nat → Int64}, RI R I → Fm (fun c => c = o) I0 I → ((I0 o 7).toInt ≤ (I o 6).toInt) → ((I o 6).toInt < (I o 7).toInt) → ((I o 7).toInt ≤ (I o 3).toInt) → ((I o 3).toInt = (I0 o 3).toInt) → ((I o 4).toInt = (I0 o 4).toInt) → ((I o 44).toInt = (I0 o 44).toInt) → ((I o 45).toInt = (I0 o 45).toInt) → ((I o 46).toInt = (I0 o 46).toInt) → ((I o 47).toInt = (I0 o 47).toInt) → ((I o 48).toInt = (I0 o 48).toInt) → ((I o 49).toInt = (I0 o 49).toInt) → (1600 - (I o 7).toInt).toNat < k → Ev (qGG D cA b E) mModel_next 2 (0, 0) 223 [(0, .ref o), (1, .int x1)] [] (n, sh, Rf, I, L) post := by
  intro k
  induction k with
  | zero =>
    intro x1 I L hR hf hi0 hi1 hi2 hi3 hi4 hi5 hi6 hi7 hi8 hi9 hi10 hm
    exact absurd hm (Nat.not_lt_zero _)
  | succ k ih =>
    intro x1 I L hR hf hi0 hi1 hi2 hi3 hi4 hi5 hi6 hi7 hi8 hi9 hi10 hm
    have g_299 : (0 : Int) ≤ (I o 6).toInt ∧ (I o 6).toInt ≤ 1600 := hR.at0 ra 6 (by decide)
    have g_300 : (0 : Int) ≤ (I o 7).toInt ∧ (I o 7).toInt ≤ 1601 := hR.at0 ra 7 (by decide)
    have g_301 : (0 : Int) ≤ (I o 3).toInt ∧ (I o 3).toInt ≤ 1600 := hR.at0 ra 3 (by decide)
    refine sModel_next_223 o n sh Rf I L post x1 hok hw ?_
    unfold fModel_next_223
    have g_302 : (0 : Int) ≤ (I o 7).toInt ∧ (I o 7).toInt ≤ 1601 := hR.at0 ra 7 (by decide)
    refine y_Model_sign hok hw ra (by first | omega | (intro h; omega) | exact Or.inl rfl | exact Or.inr rfl) hR (fun r_303 u_304 u_305 => ⟨r_303, I, L, rfl, rfl, ?_⟩)
    refine y_Model_isLetter hok hR (fun r_306 u_307 u_308 => ⟨r_306, I, L, rfl, rfl, ?_⟩)
    have b_309 : 0 ≤ r_306.toInt ∧ r_306.toInt ≤ 1 := u_307.rg
    have l_310 : (0 : Int32).toInt = 0 := rfl
    refine ⟨fun c_311 => ?_, fun c_311 => ?_⟩
    · have d_312 := iEq c_311
      refine fun L_313 e_314 => ?_
      have g_315 : (0 : Int) ≤ (I o 6).toInt ∧ (I o 6).toInt ≤ 1600 := hR.at0 ra 6 (by decide)
      exact yModel_next_260 (I0 := I0) (L0 := L0) hok hw ra hq0 hp  _ hR hf (by first | omega | (intro h; omega) | exact Or.inl rfl | exact Or.inr rfl) (by first | omega | (intro h; omega) | exact Or.inl rfl | exact Or.inr rfl) (by first | omega | (intro h; omega) | exact Or.inl rfl | exact Or.inr rfl) (by first | omega | (intro h; omega) | exact Or.inl rfl | exact Or.inr rfl) (by first | omega | (intro h; omega) | exact Or.inl rfl | exact Or.inr rfl) (by first | omega | (intro h; omega) | exact Or.inl rfl | exact Or.inr rfl) (by first | omega | (intro h; omega) | exact Or.inl rfl | exact Or.inr rfl) (by first | omega | (intro h; omega) | exact Or.inl rfl | exact Or.inr rfl) (by first | omega | (intro h; omega) | exact Or.inl rfl | exact Or.inr rfl) (by first | omega | (intro h; omega) | exact Or.inl rfl | exact Or.inr rfl) (by first | omega | (intro h; omega) | exact Or.inl rfl | exact Or.inr rfl) (by first | omega | (intro h; omega) | exact Or.inl rfl | exact Or.inr rfl) (Nat.lt_succ_self _)
    · have d_316 := iNe c_311
      have lt := u_304 (by have := u_308 (by omega); omega)
      have g_317 : (0 : Int) ≤ (I o 7).toInt ∧ (I o 7).toInt ≤ 1601 := hR.at0 ra 7 (by decide)
      have l_318 : (1 : Int32).toInt = 1 := rfl
      have a_319 : ((I o 7) + 1).toInt = (I o 7).toInt + (1 : Int32).toInt := tAdd (by omega) (by omega)
      refine fun I_320 e_321 => ?_
      have hR_322 : RI R I_320 := hR.up0 ra (by decide) e_321 (show (0 : Int) ≤ ((I o 7) + 1).toInt by omega) (show ((I o 7) + 1).toInt ≤ (1601 : Int) by omega)
      have hf_323 : Fm (fun c => c = o) I0 I_320 := hf.set (by first | rfl | omega | (dsimp only; omega)) e_321
      have t_324 : (I_320 o 6).toInt = (I o 6).toInt := by rw [← e_321, q_u_k (by decide)]
      have t_325 : (I_320 o 7).toInt = ((I o 7) + 1).toInt := by rw [← e_321, q_u_at]
      have t_326 : (I_320 o 8).toInt = (I o 8).toInt := by rw [← e_321, q_u_k (by decide)]
      have t_327 : (I_320 o 9).toInt = (I o 9).toInt := by rw [← e_321, q_u_k (by decide)]
      have t_328 : (I_320 o 3).toInt = (I o 3).toInt := by rw [← e_321, q_u_k (by decide)]
      have t_329 : (I_320 o 4).toInt = (I o 4).toInt := by rw [← e_321, q_u_k (by decide)]
      have t_330 : (I_320 o 44).toInt = (I o 44).toInt := by rw [← e_321, q_u_k (by decide)]
      have t_331 : (I_320 o 45).toInt = (I o 45).toInt := by rw [← e_321, q_u_k (by decide)]
      have t_332 : (I_320 o 46).toInt = (I o 46).toInt := by rw [← e_321, q_u_k (by decide)]
      have t_333 : (I_320 o 47).toInt = (I o 47).toInt := by rw [← e_321, q_u_k (by decide)]
      have t_334 : (I_320 o 48).toInt = (I o 48).toInt := by rw [← e_321, q_u_k (by decide)]
      have t_335 : (I_320 o 49).toInt = (I o 49).toInt := by rw [← e_321, q_u_k (by decide)]
      exact ih hR_322 hf_323 (by first | omega | (intro h; omega) | exact Or.inl rfl | exact Or.inr rfl) (by first | omega | (intro h; omega) | exact Or.inl rfl | exact Or.inr rfl) (by first | omega | (intro h; omega) | exact Or.inl rfl | exact Or.inr rfl) (by first | omega | (intro h; omega) | exact Or.inl rfl | exact Or.inr rfl) (by first | omega | (intro h; omega) | exact Or.inl rfl | exact Or.inr rfl) (by first | omega | (intro h; omega) | exact Or.inl rfl | exact Or.inr rfl) (by first | omega | (intro h; omega) | exact Or.inl rfl | exact Or.inr rfl) (by first | omega | (intro h; omega) | exact Or.inl rfl | exact Or.inr rfl) (by first | omega | (intro h; omega) | exact Or.inl rfl | exact Or.inr rfl) (by first | omega | (intro h; omega) | exact Or.inl rfl | exact Or.inr rfl) (by first | omega | (intro h; omega) | exact Or.inl rfl | exact Or.inr rfl) (by omega)
set_option maxHeartbeats 4000000 in
set_option maxRecDepth 20000 in
theorem yModel_next_8 {D : va_G} {cA : FieldType → ClassId} {b : Nat} {E : State → Prop} {R : qRg} {o n : Nat} {sh : Nat → qC} {Rf : Nat → Nat → Option Nat} {I0 : Nat → Nat → Int32} {L0 : Nat → Nat → Int64} {post : Option Value → qS → Prop} (hok : q_ok (qGG D cA b E)) (hw : WfModel (qGG D cA b E) n sh Rf o) (ra : RAModel R o) (hq0 : (I0 o 7).toInt ≤ (I0 o 3).toInt) (hp : ∀ (I' : Nat → Nat → Int32) (L' : Nat → Nat → Int64), RI R I' → Fm (fun c => c = o) I0 I' → ((I' o 7).toInt ≤ (I' o 3).toInt) → ((I0 o 7).toInt ≤ (I' o 7).toInt) → (Im ((I' o 8).toInt ≠ 0) ((I0 o 7).toInt < (I' o 7).toInt)) → (Im ((I' o 8).toInt = 5) (0 ≤ (I' o 9).toInt ∧ (I' o 9).toInt ≤ 15)) → ((I' o 3).toInt = (I0 o 3).toInt) → ((I' o 4).toInt = (I0 o 4).toInt) → ((I' o 44).toInt = (I0 o 44).toInt) → ((I' o 45).toInt = (I0 o 45).toInt) → ((I' o 46).toInt = (I0 o 46).toInt) → ((I' o 47).toInt = (I0 o 47).toInt) → ((I' o 48).toInt = (I0 o 48).toInt) → ((I' o 49).toInt = (I0 o 49).toInt) → post none (n, sh, Rf, I', L')) : ∀ (k : Nat)  {I : Nat → Nat → Int32} {L : Nat → Nat → Int64}, RI R I → Fm (fun c => c = o) I0 I → ((I o 7).toInt = (I0 o 7).toInt) → ((I o 7).toInt ≤ (I o 6).toInt) → ((I o 6).toInt ≤ (I o 3).toInt) → ((I o 7).toInt ≤ (I o 3).toInt) → ((I o 3).toInt = (I0 o 3).toInt) → ((I o 4).toInt = (I0 o 4).toInt) → ((I o 44).toInt = (I0 o 44).toInt) → ((I o 45).toInt = (I0 o 45).toInt) → ((I o 46).toInt = (I0 o 46).toInt) → ((I o 47).toInt = (I0 o 47).toInt) → ((I o 48).toInt = (I0 o 48).toInt) → ((I o 49).toInt = (I0 o 49).toInt) → (1600 - (I o 6).toInt).toNat < k → Ev (qGG D cA b E) mModel_next 2 (0, 0) 8 [(0, .ref o)] [] (n, sh, Rf, I, L) post := by
  intro k
  induction k with
  | zero =>
    intro  I L hR hf hi0 hi1 hi2 hi3 hi4 hi5 hi6 hi7 hi8 hi9 hi10 hi11 hm
    exact absurd hm (Nat.not_lt_zero _)
  | succ k ih =>
    intro  I L hR hf hi0 hi1 hi2 hi3 hi4 hi5 hi6 hi7 hi8 hi9 hi10 hi11 hm
    have g_336 : (0 : Int) ≤ (I o 6).toInt ∧ (I o 6).toInt ≤ 1600 := hR.at0 ra 6 (by decide)
    have g_337 : (0 : Int) ≤ (I o 7).toInt ∧ (I o 7).toInt ≤ 1601 := hR.at0 ra 7 (by decide)
    have g_338 : (0 : Int) ≤ (I o 3).toInt ∧ (I o 3).toInt ≤ 1600 := hR.at0 ra 3 (by decide)
    refine sModel_next_8 o n sh Rf I L post  hok hw ?_
    unfold fModel_next_8
    have g_339 : (0 : Int) ≤ (I o 6).toInt ∧ (I o 6).toInt ≤ 1600 := hR.at0 ra 6 (by decide)
    have g_340 : (0 : Int) ≤ (I o 3).toInt ∧ (I o 3).toInt ≤ 1600 := hR.at0 ra 3 (by decide)
    refine ⟨fun c_341 => ?_, fun c_341 => ?_⟩
    · have d_342 := iLe c_341
      unfold fModel_next_58
      have g_343 : (0 : Int) ≤ (I o 6).toInt ∧ (I o 6).toInt ≤ 1600 := hR.at0 ra 6 (by decide)
      refine y_Model_sign hok hw ra (by first | omega | (intro h; omega) | exact Or.inl rfl | exact Or.inr rfl) hR (fun r_344 u_345 u_346 => ⟨r_344, I, L, rfl, rfl, ?_⟩)
      obtain ⟨a1, ha1⟩ : ∃ a, a = I o 6 := ⟨_, rfl⟩
      have hA : a1.toInt = (I o 6).toInt := by rw [ha1]
      have sc := u_346
      rw [hf (o + 2) (by first | omega | (dsimp only; omega)), show I o 3 = I0 o 3 from Int32.toInt_inj.mp (by omega), show I o 6 = a1 from Int32.toInt_inj.mp (by omega)] at sc
      have g_347 : (0 : Int) ≤ (I o 6).toInt ∧ (I o 6).toInt ≤ 1600 := hR.at0 ra 6 (by decide)
      have l_348 : (1 : Int32).toInt = 1 := rfl
      have a_349 : ((I o 6) + 1).toInt = (I o 6).toInt + (1 : Int32).toInt := tAdd (by omega) (by omega)
      refine fun I_350 e_351 => ?_
      have hR_352 : RI R I_350 := hR.up0 ra (by decide) e_351 (show (0 : Int) ≤ ((I o 6) + 1).toInt by omega) (show ((I o 6) + 1).toInt ≤ (1601 : Int) by omega)
      have hf_353 : Fm (fun c => c = o) I0 I_350 := hf.set (by first | rfl | omega | (dsimp only; omega)) e_351
      have t_354 : (I_350 o 6).toInt = (I o 6).toInt := by rw [← e_351, q_u_k (by decide)]
      have t_355 : (I_350 o 7).toInt = ((I o 6) + 1).toInt := by rw [← e_351, q_u_at]
      have t_356 : (I_350 o 8).toInt = (I o 8).toInt := by rw [← e_351, q_u_k (by decide)]
      have t_357 : (I_350 o 9).toInt = (I o 9).toInt := by rw [← e_351, q_u_k (by decide)]
      have t_358 : (I_350 o 3).toInt = (I o 3).toInt := by rw [← e_351, q_u_k (by decide)]
      have t_359 : (I_350 o 4).toInt = (I o 4).toInt := by rw [← e_351, q_u_k (by decide)]
      have t_360 : (I_350 o 44).toInt = (I o 44).toInt := by rw [← e_351, q_u_k (by decide)]
      have t_361 : (I_350 o 45).toInt = (I o 45).toInt := by rw [← e_351, q_u_k (by decide)]
      have t_362 : (I_350 o 46).toInt = (I o 46).toInt := by rw [← e_351, q_u_k (by decide)]
      have t_363 : (I_350 o 47).toInt = (I o 47).toInt := by rw [← e_351, q_u_k (by decide)]
      have t_364 : (I_350 o 48).toInt = (I o 48).toInt := by rw [← e_351, q_u_k (by decide)]
      have t_365 : (I_350 o 49).toInt = (I o 49).toInt := by rw [← e_351, q_u_k (by decide)]
      have g_366 : (0 : Int) ≤ (I_350 o 6).toInt ∧ (I_350 o 6).toInt ≤ 1600 := hR_352.at0 ra 6 (by decide)
      have g_367 : (0 : Int) ≤ (I_350 o 3).toInt ∧ (I_350 o 3).toInt ≤ 1600 := hR_352.at0 ra 3 (by decide)
      refine ⟨fun c_368 => ?_, fun c_368 => ?_⟩
      · have d_369 := iLt c_368
        have l_370 : (0 : Int32).toInt = 0 := rfl
        refine ⟨fun c_371 => ?_, fun c_371 => ?_⟩
        · have d_372 := iNe c_371
          unfold fModel_next_216
          refine y_Model_isLetter hok hR_352 (fun r_373 u_374 u_375 => ⟨r_373, I_350, L, rfl, rfl, ?_⟩)
          have b_376 : 0 ≤ r_373.toInt ∧ r_373.toInt ≤ 1 := u_374.rg
          refine ⟨fun c_377 => ?_, fun c_377 => ?_⟩
          · have d_378 := iEq c_377
            refine y_Model_isDigit hok hR_352 (fun r_379 u_380 u_381 u_382 => ⟨r_379, I_350, L, rfl, rfl, ?_⟩)
            have b_383 : 0 ≤ r_379.toInt ∧ r_379.toInt ≤ 1 := u_380.rg
            refine ⟨fun c_384 => ?_, fun c_384 => ?_⟩
            · have d_385 := iEq c_384
              refine y_Model_isSign hok hR_352 (fun r_386 u_387 => ⟨r_386, I_350, L, rfl, rfl, ?_⟩)
              have b_388 : 0 ≤ r_386.toInt ∧ r_386.toInt ≤ 1 := u_387.rg
              refine ⟨fun c_389 => ?_, fun c_389 => ?_⟩
              · have d_390 := iEq c_389
                refine fun I_391 e_392 => ?_
                have hR_393 : RI R I_391 := hR_352.up0 ra (by decide) e_392 (i_lo _) (i_hi _)
                have hf_394 : Fm (fun c => c = o) I0 I_391 := hf_353.set (by first | rfl | omega | (dsimp only; omega)) e_392
                have t_395 : (I_391 o 6).toInt = (I_350 o 6).toInt := by rw [← e_392, q_u_k (by decide)]
                have t_396 : (I_391 o 7).toInt = (I_350 o 7).toInt := by rw [← e_392, q_u_k (by decide)]
                have t_397 : (I_391 o 8).toInt = (1 : Int32).toInt := by rw [← e_392, q_u_at]
                have t_398 : (I_391 o 9).toInt = (I_350 o 9).toInt := by rw [← e_392, q_u_k (by decide)]
                have t_399 : (I_391 o 3).toInt = (I_350 o 3).toInt := by rw [← e_392, q_u_k (by decide)]
                have t_400 : (I_391 o 4).toInt = (I_350 o 4).toInt := by rw [← e_392, q_u_k (by decide)]
                have t_401 : (I_391 o 44).toInt = (I_350 o 44).toInt := by rw [← e_392, q_u_k (by decide)]
                have t_402 : (I_391 o 45).toInt = (I_350 o 45).toInt := by rw [← e_392, q_u_k (by decide)]
                have t_403 : (I_391 o 46).toInt = (I_350 o 46).toInt := by rw [← e_392, q_u_k (by decide)]
                have t_404 : (I_391 o 47).toInt = (I_350 o 47).toInt := by rw [← e_392, q_u_k (by decide)]
                have t_405 : (I_391 o 48).toInt = (I_350 o 48).toInt := by rw [← e_392, q_u_k (by decide)]
                have t_406 : (I_391 o 49).toInt = (I_350 o 49).toInt := by rw [← e_392, q_u_k (by decide)]
                exact (hp _ _ hR_393 hf_394 (by first | omega | (intro h; omega) | exact Or.inl rfl | exact Or.inr rfl) (by first | omega | (intro h; omega) | exact Or.inl rfl | exact Or.inr rfl) (by intro _; omega) (by intro _; omega) (by first | omega | (intro h; omega) | exact Or.inl rfl | exact Or.inr rfl) (by first | omega | (intro h; omega) | exact Or.inl rfl | exact Or.inr rfl) (by first | omega | (intro h; omega) | exact Or.inl rfl | exact Or.inr rfl) (by first | omega | (intro h; omega) | exact Or.inl rfl | exact Or.inr rfl) (by first | omega | (intro h; omega) | exact Or.inl rfl | exact Or.inr rfl) (by first | omega | (intro h; omega) | exact Or.inl rfl | exact Or.inr rfl) (by first | omega | (intro h; omega) | exact Or.inl rfl | exact Or.inr rfl) (by first | omega | (intro h; omega) | exact Or.inl rfl | exact Or.inr rfl))
              · have d_407 := iNe c_389
                have l_408 : (6 : Int32).toInt = 6 := rfl
                refine fun I_409 e_410 => ?_
                have hR_411 : RI R I_409 := hR_352.up0 ra (by decide) e_410 (i_lo _) (i_hi _)
                have hf_412 : Fm (fun c => c = o) I0 I_409 := hf_353.set (by first | rfl | omega | (dsimp only; omega)) e_410
                have t_413 : (I_409 o 6).toInt = (I_350 o 6).toInt := by rw [← e_410, q_u_k (by decide)]
                have t_414 : (I_409 o 7).toInt = (I_350 o 7).toInt := by rw [← e_410, q_u_k (by decide)]
                have t_415 : (I_409 o 8).toInt = (6 : Int32).toInt := by rw [← e_410, q_u_at]
                have t_416 : (I_409 o 9).toInt = (I_350 o 9).toInt := by rw [← e_410, q_u_k (by decide)]
                have t_417 : (I_409 o 3).toInt = (I_350 o 3).toInt := by rw [← e_410, q_u_k (by decide)]
                have t_418 : (I_409 o 4).toInt = (I_350 o 4).toInt := by rw [← e_410, q_u_k (by decide)]
                have t_419 : (I_409 o 44).toInt = (I_350 o 44).toInt := by rw [← e_410, q_u_k (by decide)]
                have t_420 : (I_409 o 45).toInt = (I_350 o 45).toInt := by rw [← e_410, q_u_k (by decide)]
                have t_421 : (I_409 o 46).toInt = (I_350 o 46).toInt := by rw [← e_410, q_u_k (by decide)]
                have t_422 : (I_409 o 47).toInt = (I_350 o 47).toInt := by rw [← e_410, q_u_k (by decide)]
                have t_423 : (I_409 o 48).toInt = (I_350 o 48).toInt := by rw [← e_410, q_u_k (by decide)]
                have t_424 : (I_409 o 49).toInt = (I_350 o 49).toInt := by rw [← e_410, q_u_k (by decide)]
                exact (hp _ _ hR_411 hf_412 (by first | omega | (intro h; omega) | exact Or.inl rfl | exact Or.inr rfl) (by first | omega | (intro h; omega) | exact Or.inl rfl | exact Or.inr rfl) (by intro _; omega) (by intro _; omega) (by first | omega | (intro h; omega) | exact Or.inl rfl | exact Or.inr rfl) (by first | omega | (intro h; omega) | exact Or.inl rfl | exact Or.inr rfl) (by first | omega | (intro h; omega) | exact Or.inl rfl | exact Or.inr rfl) (by first | omega | (intro h; omega) | exact Or.inl rfl | exact Or.inr rfl) (by first | omega | (intro h; omega) | exact Or.inl rfl | exact Or.inr rfl) (by first | omega | (intro h; omega) | exact Or.inl rfl | exact Or.inr rfl) (by first | omega | (intro h; omega) | exact Or.inl rfl | exact Or.inr rfl) (by first | omega | (intro h; omega) | exact Or.inl rfl | exact Or.inr rfl))
            · have d_425 := iNe c_384
              have dc := u_381 (by omega)
              refine fun I_426 e_427 => ?_
              have hR_428 : RI R I_426 := hR_352.up0 ra (by decide) e_427 (i_lo _) (i_hi _)
              have hf_429 : Fm (fun c => c = o) I0 I_426 := hf_353.set (by first | rfl | omega | (dsimp only; omega)) e_427
              have t_430 : (I_426 o 6).toInt = (I_350 o 6).toInt := by rw [← e_427, q_u_k (by decide)]
              have t_431 : (I_426 o 7).toInt = (I_350 o 7).toInt := by rw [← e_427, q_u_k (by decide)]
              have t_432 : (I_426 o 8).toInt = (I_350 o 8).toInt := by rw [← e_427, q_u_k (by decide)]
              have t_433 : (I_426 o 9).toInt = (0 : Int32).toInt := by rw [← e_427, q_u_at]
              have t_434 : (I_426 o 3).toInt = (I_350 o 3).toInt := by rw [← e_427, q_u_k (by decide)]
              have t_435 : (I_426 o 4).toInt = (I_350 o 4).toInt := by rw [← e_427, q_u_k (by decide)]
              have t_436 : (I_426 o 44).toInt = (I_350 o 44).toInt := by rw [← e_427, q_u_k (by decide)]
              have t_437 : (I_426 o 45).toInt = (I_350 o 45).toInt := by rw [← e_427, q_u_k (by decide)]
              have t_438 : (I_426 o 46).toInt = (I_350 o 46).toInt := by rw [← e_427, q_u_k (by decide)]
              have t_439 : (I_426 o 47).toInt = (I_350 o 47).toInt := by rw [← e_427, q_u_k (by decide)]
              have t_440 : (I_426 o 48).toInt = (I_350 o 48).toInt := by rw [← e_427, q_u_k (by decide)]
              have t_441 : (I_426 o 49).toInt = (I_350 o 49).toInt := by rw [← e_427, q_u_k (by decide)]
              have g_442 : (0 : Int) ≤ (I_426 o 6).toInt ∧ (I_426 o 6).toInt ≤ 1600 := hR_428.at0 ra 6 (by decide)
              refine fun I_443 e_444 => ?_
              have hR_445 : RI R I_443 := hR_428.up0 ra (by decide) e_444 (show (0 : Int) ≤ (I_426 o 6).toInt by omega) (show (I_426 o 6).toInt ≤ (1601 : Int) by omega)
              have hf_446 : Fm (fun c => c = o) I0 I_443 := hf_429.set (by first | rfl | omega | (dsimp only; omega)) e_444
              have t_447 : (I_443 o 6).toInt = (I_426 o 6).toInt := by rw [← e_444, q_u_k (by decide)]
              have t_448 : (I_443 o 7).toInt = (I_426 o 6).toInt := by rw [← e_444, q_u_at]
              have t_449 : (I_443 o 8).toInt = (I_426 o 8).toInt := by rw [← e_444, q_u_k (by decide)]
              have t_450 : (I_443 o 9).toInt = (I_426 o 9).toInt := by rw [← e_444, q_u_k (by decide)]
              have t_451 : (I_443 o 3).toInt = (I_426 o 3).toInt := by rw [← e_444, q_u_k (by decide)]
              have t_452 : (I_443 o 4).toInt = (I_426 o 4).toInt := by rw [← e_444, q_u_k (by decide)]
              have t_453 : (I_443 o 44).toInt = (I_426 o 44).toInt := by rw [← e_444, q_u_k (by decide)]
              have t_454 : (I_443 o 45).toInt = (I_426 o 45).toInt := by rw [← e_444, q_u_k (by decide)]
              have t_455 : (I_443 o 46).toInt = (I_426 o 46).toInt := by rw [← e_444, q_u_k (by decide)]
              have t_456 : (I_443 o 47).toInt = (I_426 o 47).toInt := by rw [← e_444, q_u_k (by decide)]
              have t_457 : (I_443 o 48).toInt = (I_426 o 48).toInt := by rw [← e_444, q_u_k (by decide)]
              have t_458 : (I_443 o 49).toInt = (I_426 o 49).toInt := by rw [← e_444, q_u_k (by decide)]
              exact yModel_next_363 (I0 := I0) (L0 := L0) hok hw ra hq0 hp  _ hR_445 hf_446 (by first | omega | (intro h; omega) | exact Or.inl rfl | exact Or.inr rfl) (by first | omega | (intro h; omega) | exact Or.inl rfl | exact Or.inr rfl) (by first | exact sgLo sc (by omega) (by omega) | exact sgLo (a := I o 6) rfl (by omega) (by omega)) (by first | exact sgHi sc (by omega) (by omega) | exact sgHi (a := I o 6) rfl (by omega) (by omega)) (by first | omega | (intro h; omega) | exact Or.inl rfl | exact Or.inr rfl) (by first | omega | (intro h; omega) | exact Or.inl rfl | exact Or.inr rfl) (by first | omega | (intro h; omega) | exact Or.inl rfl | exact Or.inr rfl) (by first | omega | (intro h; omega) | exact Or.inl rfl | exact Or.inr rfl) (by first | omega | (intro h; omega) | exact Or.inl rfl | exact Or.inr rfl) (by first | omega | (intro h; omega) | exact Or.inl rfl | exact Or.inr rfl) (by first | omega | (intro h; omega) | exact Or.inl rfl | exact Or.inr rfl) (by first | omega | (intro h; omega) | exact Or.inl rfl | exact Or.inr rfl) (by first | omega | (intro h; omega) | exact Or.inl rfl | exact Or.inr rfl) (Nat.lt_succ_self _)
          · have d_459 := iNe c_377
            exact yModel_next_223 (I0 := I0) (L0 := L0) hok hw ra hq0 hp  _ hR_352 hf_353 (by first | omega | (intro h; omega) | exact Or.inl rfl | exact Or.inr rfl) (by first | omega | (intro h; omega) | exact Or.inl rfl | exact Or.inr rfl) (by first | omega | (intro h; omega) | exact Or.inl rfl | exact Or.inr rfl) (by first | omega | (intro h; omega) | exact Or.inl rfl | exact Or.inr rfl) (by first | omega | (intro h; omega) | exact Or.inl rfl | exact Or.inr rfl) (by first | omega | (intro h; omega) | exact Or.inl rfl | exact Or.inr rfl) (by first | omega | (intro h; omega) | exact Or.inl rfl | exact Or.inr rfl) (by first | omega | (intro h; omega) | exact Or.inl rfl | exact Or.inr rfl) (by first | omega | (intro h; omega) | exact Or.inl rfl | exact Or.inr rfl) (by first | omega | (intro h; omega) | exact Or.inl rfl | exact Or.inr rfl) (by first | omega | (intro h; omega) | exact Or.inl rfl | exact Or.inr rfl) (Nat.lt_succ_self _)
        · have d_460 := iEq c_371
          have l_461 : (112 : Int32).toInt = 112 := rfl
          refine ⟨fun c_462 => ?_, fun c_462 => ?_⟩
          · have d_463 := iNe c_462
            unfold fModel_next_216
            refine y_Model_isLetter hok hR_352 (fun r_464 u_465 u_466 => ⟨r_464, I_350, L, rfl, rfl, ?_⟩)
            have b_467 : 0 ≤ r_464.toInt ∧ r_464.toInt ≤ 1 := u_465.rg
            refine ⟨fun c_468 => ?_, fun c_468 => ?_⟩
            · have d_469 := iEq c_468
              refine y_Model_isDigit hok hR_352 (fun r_470 u_471 u_472 u_473 => ⟨r_470, I_350, L, rfl, rfl, ?_⟩)
              have b_474 : 0 ≤ r_470.toInt ∧ r_470.toInt ≤ 1 := u_471.rg
              refine ⟨fun c_475 => ?_, fun c_475 => ?_⟩
              · have d_476 := iEq c_475
                refine y_Model_isSign hok hR_352 (fun r_477 u_478 => ⟨r_477, I_350, L, rfl, rfl, ?_⟩)
                have b_479 : 0 ≤ r_477.toInt ∧ r_477.toInt ≤ 1 := u_478.rg
                refine ⟨fun c_480 => ?_, fun c_480 => ?_⟩
                · have d_481 := iEq c_480
                  refine fun I_482 e_483 => ?_
                  have hR_484 : RI R I_482 := hR_352.up0 ra (by decide) e_483 (i_lo _) (i_hi _)
                  have hf_485 : Fm (fun c => c = o) I0 I_482 := hf_353.set (by first | rfl | omega | (dsimp only; omega)) e_483
                  have t_486 : (I_482 o 6).toInt = (I_350 o 6).toInt := by rw [← e_483, q_u_k (by decide)]
                  have t_487 : (I_482 o 7).toInt = (I_350 o 7).toInt := by rw [← e_483, q_u_k (by decide)]
                  have t_488 : (I_482 o 8).toInt = (1 : Int32).toInt := by rw [← e_483, q_u_at]
                  have t_489 : (I_482 o 9).toInt = (I_350 o 9).toInt := by rw [← e_483, q_u_k (by decide)]
                  have t_490 : (I_482 o 3).toInt = (I_350 o 3).toInt := by rw [← e_483, q_u_k (by decide)]
                  have t_491 : (I_482 o 4).toInt = (I_350 o 4).toInt := by rw [← e_483, q_u_k (by decide)]
                  have t_492 : (I_482 o 44).toInt = (I_350 o 44).toInt := by rw [← e_483, q_u_k (by decide)]
                  have t_493 : (I_482 o 45).toInt = (I_350 o 45).toInt := by rw [← e_483, q_u_k (by decide)]
                  have t_494 : (I_482 o 46).toInt = (I_350 o 46).toInt := by rw [← e_483, q_u_k (by decide)]
                  have t_495 : (I_482 o 47).toInt = (I_350 o 47).toInt := by rw [← e_483, q_u_k (by decide)]
                  have t_496 : (I_482 o 48).toInt = (I_350 o 48).toInt := by rw [← e_483, q_u_k (by decide)]
                  have t_497 : (I_482 o 49).toInt = (I_350 o 49).toInt := by rw [← e_483, q_u_k (by decide)]
                  exact (hp _ _ hR_484 hf_485 (by first | omega | (intro h; omega) | exact Or.inl rfl | exact Or.inr rfl) (by first | omega | (intro h; omega) | exact Or.inl rfl | exact Or.inr rfl) (by intro _; omega) (by intro _; omega) (by first | omega | (intro h; omega) | exact Or.inl rfl | exact Or.inr rfl) (by first | omega | (intro h; omega) | exact Or.inl rfl | exact Or.inr rfl) (by first | omega | (intro h; omega) | exact Or.inl rfl | exact Or.inr rfl) (by first | omega | (intro h; omega) | exact Or.inl rfl | exact Or.inr rfl) (by first | omega | (intro h; omega) | exact Or.inl rfl | exact Or.inr rfl) (by first | omega | (intro h; omega) | exact Or.inl rfl | exact Or.inr rfl) (by first | omega | (intro h; omega) | exact Or.inl rfl | exact Or.inr rfl) (by first | omega | (intro h; omega) | exact Or.inl rfl | exact Or.inr rfl))
                · have d_498 := iNe c_480
                  have l_499 : (6 : Int32).toInt = 6 := rfl
                  refine fun I_500 e_501 => ?_
                  have hR_502 : RI R I_500 := hR_352.up0 ra (by decide) e_501 (i_lo _) (i_hi _)
                  have hf_503 : Fm (fun c => c = o) I0 I_500 := hf_353.set (by first | rfl | omega | (dsimp only; omega)) e_501
                  have t_504 : (I_500 o 6).toInt = (I_350 o 6).toInt := by rw [← e_501, q_u_k (by decide)]
                  have t_505 : (I_500 o 7).toInt = (I_350 o 7).toInt := by rw [← e_501, q_u_k (by decide)]
                  have t_506 : (I_500 o 8).toInt = (6 : Int32).toInt := by rw [← e_501, q_u_at]
                  have t_507 : (I_500 o 9).toInt = (I_350 o 9).toInt := by rw [← e_501, q_u_k (by decide)]
                  have t_508 : (I_500 o 3).toInt = (I_350 o 3).toInt := by rw [← e_501, q_u_k (by decide)]
                  have t_509 : (I_500 o 4).toInt = (I_350 o 4).toInt := by rw [← e_501, q_u_k (by decide)]
                  have t_510 : (I_500 o 44).toInt = (I_350 o 44).toInt := by rw [← e_501, q_u_k (by decide)]
                  have t_511 : (I_500 o 45).toInt = (I_350 o 45).toInt := by rw [← e_501, q_u_k (by decide)]
                  have t_512 : (I_500 o 46).toInt = (I_350 o 46).toInt := by rw [← e_501, q_u_k (by decide)]
                  have t_513 : (I_500 o 47).toInt = (I_350 o 47).toInt := by rw [← e_501, q_u_k (by decide)]
                  have t_514 : (I_500 o 48).toInt = (I_350 o 48).toInt := by rw [← e_501, q_u_k (by decide)]
                  have t_515 : (I_500 o 49).toInt = (I_350 o 49).toInt := by rw [← e_501, q_u_k (by decide)]
                  exact (hp _ _ hR_502 hf_503 (by first | omega | (intro h; omega) | exact Or.inl rfl | exact Or.inr rfl) (by first | omega | (intro h; omega) | exact Or.inl rfl | exact Or.inr rfl) (by intro _; omega) (by intro _; omega) (by first | omega | (intro h; omega) | exact Or.inl rfl | exact Or.inr rfl) (by first | omega | (intro h; omega) | exact Or.inl rfl | exact Or.inr rfl) (by first | omega | (intro h; omega) | exact Or.inl rfl | exact Or.inr rfl) (by first | omega | (intro h; omega) | exact Or.inl rfl | exact Or.inr rfl) (by first | omega | (intro h; omega) | exact Or.inl rfl | exact Or.inr rfl) (by first | omega | (intro h; omega) | exact Or.inl rfl | exact Or.inr rfl) (by first | omega | (intro h; omega) | exact Or.inl rfl | exact Or.inr rfl) (by first | omega | (intro h; omega) | exact Or.inl rfl | exact Or.inr rfl))
              · have d_516 := iNe c_475
                have dc := u_472 (by omega)
                refine fun I_517 e_518 => ?_
                have hR_519 : RI R I_517 := hR_352.up0 ra (by decide) e_518 (i_lo _) (i_hi _)
                have hf_520 : Fm (fun c => c = o) I0 I_517 := hf_353.set (by first | rfl | omega | (dsimp only; omega)) e_518
                have t_521 : (I_517 o 6).toInt = (I_350 o 6).toInt := by rw [← e_518, q_u_k (by decide)]
                have t_522 : (I_517 o 7).toInt = (I_350 o 7).toInt := by rw [← e_518, q_u_k (by decide)]
                have t_523 : (I_517 o 8).toInt = (I_350 o 8).toInt := by rw [← e_518, q_u_k (by decide)]
                have t_524 : (I_517 o 9).toInt = (0 : Int32).toInt := by rw [← e_518, q_u_at]
                have t_525 : (I_517 o 3).toInt = (I_350 o 3).toInt := by rw [← e_518, q_u_k (by decide)]
                have t_526 : (I_517 o 4).toInt = (I_350 o 4).toInt := by rw [← e_518, q_u_k (by decide)]
                have t_527 : (I_517 o 44).toInt = (I_350 o 44).toInt := by rw [← e_518, q_u_k (by decide)]
                have t_528 : (I_517 o 45).toInt = (I_350 o 45).toInt := by rw [← e_518, q_u_k (by decide)]
                have t_529 : (I_517 o 46).toInt = (I_350 o 46).toInt := by rw [← e_518, q_u_k (by decide)]
                have t_530 : (I_517 o 47).toInt = (I_350 o 47).toInt := by rw [← e_518, q_u_k (by decide)]
                have t_531 : (I_517 o 48).toInt = (I_350 o 48).toInt := by rw [← e_518, q_u_k (by decide)]
                have t_532 : (I_517 o 49).toInt = (I_350 o 49).toInt := by rw [← e_518, q_u_k (by decide)]
                have g_533 : (0 : Int) ≤ (I_517 o 6).toInt ∧ (I_517 o 6).toInt ≤ 1600 := hR_519.at0 ra 6 (by decide)
                refine fun I_534 e_535 => ?_
                have hR_536 : RI R I_534 := hR_519.up0 ra (by decide) e_535 (show (0 : Int) ≤ (I_517 o 6).toInt by omega) (show (I_517 o 6).toInt ≤ (1601 : Int) by omega)
                have hf_537 : Fm (fun c => c = o) I0 I_534 := hf_520.set (by first | rfl | omega | (dsimp only; omega)) e_535
                have t_538 : (I_534 o 6).toInt = (I_517 o 6).toInt := by rw [← e_535, q_u_k (by decide)]
                have t_539 : (I_534 o 7).toInt = (I_517 o 6).toInt := by rw [← e_535, q_u_at]
                have t_540 : (I_534 o 8).toInt = (I_517 o 8).toInt := by rw [← e_535, q_u_k (by decide)]
                have t_541 : (I_534 o 9).toInt = (I_517 o 9).toInt := by rw [← e_535, q_u_k (by decide)]
                have t_542 : (I_534 o 3).toInt = (I_517 o 3).toInt := by rw [← e_535, q_u_k (by decide)]
                have t_543 : (I_534 o 4).toInt = (I_517 o 4).toInt := by rw [← e_535, q_u_k (by decide)]
                have t_544 : (I_534 o 44).toInt = (I_517 o 44).toInt := by rw [← e_535, q_u_k (by decide)]
                have t_545 : (I_534 o 45).toInt = (I_517 o 45).toInt := by rw [← e_535, q_u_k (by decide)]
                have t_546 : (I_534 o 46).toInt = (I_517 o 46).toInt := by rw [← e_535, q_u_k (by decide)]
                have t_547 : (I_534 o 47).toInt = (I_517 o 47).toInt := by rw [← e_535, q_u_k (by decide)]
                have t_548 : (I_534 o 48).toInt = (I_517 o 48).toInt := by rw [← e_535, q_u_k (by decide)]
                have t_549 : (I_534 o 49).toInt = (I_517 o 49).toInt := by rw [← e_535, q_u_k (by decide)]
                exact yModel_next_363 (I0 := I0) (L0 := L0) hok hw ra hq0 hp  _ hR_536 hf_537 (by first | omega | (intro h; omega) | exact Or.inl rfl | exact Or.inr rfl) (by first | omega | (intro h; omega) | exact Or.inl rfl | exact Or.inr rfl) (by first | exact sgLo sc (by omega) (by omega) | exact sgLo (a := I o 6) rfl (by omega) (by omega)) (by first | exact sgHi sc (by omega) (by omega) | exact sgHi (a := I o 6) rfl (by omega) (by omega)) (by first | omega | (intro h; omega) | exact Or.inl rfl | exact Or.inr rfl) (by first | omega | (intro h; omega) | exact Or.inl rfl | exact Or.inr rfl) (by first | omega | (intro h; omega) | exact Or.inl rfl | exact Or.inr rfl) (by first | omega | (intro h; omega) | exact Or.inl rfl | exact Or.inr rfl) (by first | omega | (intro h; omega) | exact Or.inl rfl | exact Or.inr rfl) (by first | omega | (intro h; omega) | exact Or.inl rfl | exact Or.inr rfl) (by first | omega | (intro h; omega) | exact Or.inl rfl | exact Or.inr rfl) (by first | omega | (intro h; omega) | exact Or.inl rfl | exact Or.inr rfl) (by first | omega | (intro h; omega) | exact Or.inl rfl | exact Or.inr rfl) (Nat.lt_succ_self _)
            · have d_550 := iNe c_468
              exact yModel_next_223 (I0 := I0) (L0 := L0) hok hw ra hq0 hp  _ hR_352 hf_353 (by first | omega | (intro h; omega) | exact Or.inl rfl | exact Or.inr rfl) (by first | omega | (intro h; omega) | exact Or.inl rfl | exact Or.inr rfl) (by first | omega | (intro h; omega) | exact Or.inl rfl | exact Or.inr rfl) (by first | omega | (intro h; omega) | exact Or.inl rfl | exact Or.inr rfl) (by first | omega | (intro h; omega) | exact Or.inl rfl | exact Or.inr rfl) (by first | omega | (intro h; omega) | exact Or.inl rfl | exact Or.inr rfl) (by first | omega | (intro h; omega) | exact Or.inl rfl | exact Or.inr rfl) (by first | omega | (intro h; omega) | exact Or.inl rfl | exact Or.inr rfl) (by first | omega | (intro h; omega) | exact Or.inl rfl | exact Or.inr rfl) (by first | omega | (intro h; omega) | exact Or.inl rfl | exact Or.inr rfl) (by first | omega | (intro h; omega) | exact Or.inl rfl | exact Or.inr rfl) (Nat.lt_succ_self _)
          · have d_551 := iEq c_462
            have g_552 : (0 : Int) ≤ (I_350 o 6).toInt ∧ (I_350 o 6).toInt ≤ 1600 := hR_352.at0 ra 6 (by decide)
            have a_553 : ((I_350 o 6) + 1).toInt = (I_350 o 6).toInt + (1 : Int32).toInt := tAdd (by omega) (by omega)
            refine y_Model_pointAt hok hw ra (by first | omega | (intro h; omega) | exact Or.inl rfl | exact Or.inr rfl) hR_352 (fun r_554 u_555 u_556 => ⟨r_554, I_350, L, rfl, rfl, ?_⟩)
            refine ⟨fun c_557 => ?_, fun c_557 => ?_⟩
            · have d_558 := iLe c_557
              unfold fModel_next_216
              refine y_Model_isLetter hok hR_352 (fun r_559 u_560 u_561 => ⟨r_559, I_350, L, rfl, rfl, ?_⟩)
              have b_562 : 0 ≤ r_559.toInt ∧ r_559.toInt ≤ 1 := u_560.rg
              refine ⟨fun c_563 => ?_, fun c_563 => ?_⟩
              · have d_564 := iEq c_563
                refine y_Model_isDigit hok hR_352 (fun r_565 u_566 u_567 u_568 => ⟨r_565, I_350, L, rfl, rfl, ?_⟩)
                have b_569 : 0 ≤ r_565.toInt ∧ r_565.toInt ≤ 1 := u_566.rg
                refine ⟨fun c_570 => ?_, fun c_570 => ?_⟩
                · have d_571 := iEq c_570
                  refine y_Model_isSign hok hR_352 (fun r_572 u_573 => ⟨r_572, I_350, L, rfl, rfl, ?_⟩)
                  have b_574 : 0 ≤ r_572.toInt ∧ r_572.toInt ≤ 1 := u_573.rg
                  refine ⟨fun c_575 => ?_, fun c_575 => ?_⟩
                  · have d_576 := iEq c_575
                    refine fun I_577 e_578 => ?_
                    have hR_579 : RI R I_577 := hR_352.up0 ra (by decide) e_578 (i_lo _) (i_hi _)
                    have hf_580 : Fm (fun c => c = o) I0 I_577 := hf_353.set (by first | rfl | omega | (dsimp only; omega)) e_578
                    have t_581 : (I_577 o 6).toInt = (I_350 o 6).toInt := by rw [← e_578, q_u_k (by decide)]
                    have t_582 : (I_577 o 7).toInt = (I_350 o 7).toInt := by rw [← e_578, q_u_k (by decide)]
                    have t_583 : (I_577 o 8).toInt = (1 : Int32).toInt := by rw [← e_578, q_u_at]
                    have t_584 : (I_577 o 9).toInt = (I_350 o 9).toInt := by rw [← e_578, q_u_k (by decide)]
                    have t_585 : (I_577 o 3).toInt = (I_350 o 3).toInt := by rw [← e_578, q_u_k (by decide)]
                    have t_586 : (I_577 o 4).toInt = (I_350 o 4).toInt := by rw [← e_578, q_u_k (by decide)]
                    have t_587 : (I_577 o 44).toInt = (I_350 o 44).toInt := by rw [← e_578, q_u_k (by decide)]
                    have t_588 : (I_577 o 45).toInt = (I_350 o 45).toInt := by rw [← e_578, q_u_k (by decide)]
                    have t_589 : (I_577 o 46).toInt = (I_350 o 46).toInt := by rw [← e_578, q_u_k (by decide)]
                    have t_590 : (I_577 o 47).toInt = (I_350 o 47).toInt := by rw [← e_578, q_u_k (by decide)]
                    have t_591 : (I_577 o 48).toInt = (I_350 o 48).toInt := by rw [← e_578, q_u_k (by decide)]
                    have t_592 : (I_577 o 49).toInt = (I_350 o 49).toInt := by rw [← e_578, q_u_k (by decide)]
                    exact (hp _ _ hR_579 hf_580 (by first | omega | (intro h; omega) | exact Or.inl rfl | exact Or.inr rfl) (by first | omega | (intro h; omega) | exact Or.inl rfl | exact Or.inr rfl) (by intro _; omega) (by intro _; omega) (by first | omega | (intro h; omega) | exact Or.inl rfl | exact Or.inr rfl) (by first | omega | (intro h; omega) | exact Or.inl rfl | exact Or.inr rfl) (by first | omega | (intro h; omega) | exact Or.inl rfl | exact Or.inr rfl) (by first | omega | (intro h; omega) | exact Or.inl rfl | exact Or.inr rfl) (by first | omega | (intro h; omega) | exact Or.inl rfl | exact Or.inr rfl) (by first | omega | (intro h; omega) | exact Or.inl rfl | exact Or.inr rfl) (by first | omega | (intro h; omega) | exact Or.inl rfl | exact Or.inr rfl) (by first | omega | (intro h; omega) | exact Or.inl rfl | exact Or.inr rfl))
                  · have d_593 := iNe c_575
                    have l_594 : (6 : Int32).toInt = 6 := rfl
                    refine fun I_595 e_596 => ?_
                    have hR_597 : RI R I_595 := hR_352.up0 ra (by decide) e_596 (i_lo _) (i_hi _)
                    have hf_598 : Fm (fun c => c = o) I0 I_595 := hf_353.set (by first | rfl | omega | (dsimp only; omega)) e_596
                    have t_599 : (I_595 o 6).toInt = (I_350 o 6).toInt := by rw [← e_596, q_u_k (by decide)]
                    have t_600 : (I_595 o 7).toInt = (I_350 o 7).toInt := by rw [← e_596, q_u_k (by decide)]
                    have t_601 : (I_595 o 8).toInt = (6 : Int32).toInt := by rw [← e_596, q_u_at]
                    have t_602 : (I_595 o 9).toInt = (I_350 o 9).toInt := by rw [← e_596, q_u_k (by decide)]
                    have t_603 : (I_595 o 3).toInt = (I_350 o 3).toInt := by rw [← e_596, q_u_k (by decide)]
                    have t_604 : (I_595 o 4).toInt = (I_350 o 4).toInt := by rw [← e_596, q_u_k (by decide)]
                    have t_605 : (I_595 o 44).toInt = (I_350 o 44).toInt := by rw [← e_596, q_u_k (by decide)]
                    have t_606 : (I_595 o 45).toInt = (I_350 o 45).toInt := by rw [← e_596, q_u_k (by decide)]
                    have t_607 : (I_595 o 46).toInt = (I_350 o 46).toInt := by rw [← e_596, q_u_k (by decide)]
                    have t_608 : (I_595 o 47).toInt = (I_350 o 47).toInt := by rw [← e_596, q_u_k (by decide)]
                    have t_609 : (I_595 o 48).toInt = (I_350 o 48).toInt := by rw [← e_596, q_u_k (by decide)]
                    have t_610 : (I_595 o 49).toInt = (I_350 o 49).toInt := by rw [← e_596, q_u_k (by decide)]
                    exact (hp _ _ hR_597 hf_598 (by first | omega | (intro h; omega) | exact Or.inl rfl | exact Or.inr rfl) (by first | omega | (intro h; omega) | exact Or.inl rfl | exact Or.inr rfl) (by intro _; omega) (by intro _; omega) (by first | omega | (intro h; omega) | exact Or.inl rfl | exact Or.inr rfl) (by first | omega | (intro h; omega) | exact Or.inl rfl | exact Or.inr rfl) (by first | omega | (intro h; omega) | exact Or.inl rfl | exact Or.inr rfl) (by first | omega | (intro h; omega) | exact Or.inl rfl | exact Or.inr rfl) (by first | omega | (intro h; omega) | exact Or.inl rfl | exact Or.inr rfl) (by first | omega | (intro h; omega) | exact Or.inl rfl | exact Or.inr rfl) (by first | omega | (intro h; omega) | exact Or.inl rfl | exact Or.inr rfl) (by first | omega | (intro h; omega) | exact Or.inl rfl | exact Or.inr rfl))
                · have d_611 := iNe c_570
                  have dc := u_567 (by omega)
                  refine fun I_612 e_613 => ?_
                  have hR_614 : RI R I_612 := hR_352.up0 ra (by decide) e_613 (i_lo _) (i_hi _)
                  have hf_615 : Fm (fun c => c = o) I0 I_612 := hf_353.set (by first | rfl | omega | (dsimp only; omega)) e_613
                  have t_616 : (I_612 o 6).toInt = (I_350 o 6).toInt := by rw [← e_613, q_u_k (by decide)]
                  have t_617 : (I_612 o 7).toInt = (I_350 o 7).toInt := by rw [← e_613, q_u_k (by decide)]
                  have t_618 : (I_612 o 8).toInt = (I_350 o 8).toInt := by rw [← e_613, q_u_k (by decide)]
                  have t_619 : (I_612 o 9).toInt = (0 : Int32).toInt := by rw [← e_613, q_u_at]
                  have t_620 : (I_612 o 3).toInt = (I_350 o 3).toInt := by rw [← e_613, q_u_k (by decide)]
                  have t_621 : (I_612 o 4).toInt = (I_350 o 4).toInt := by rw [← e_613, q_u_k (by decide)]
                  have t_622 : (I_612 o 44).toInt = (I_350 o 44).toInt := by rw [← e_613, q_u_k (by decide)]
                  have t_623 : (I_612 o 45).toInt = (I_350 o 45).toInt := by rw [← e_613, q_u_k (by decide)]
                  have t_624 : (I_612 o 46).toInt = (I_350 o 46).toInt := by rw [← e_613, q_u_k (by decide)]
                  have t_625 : (I_612 o 47).toInt = (I_350 o 47).toInt := by rw [← e_613, q_u_k (by decide)]
                  have t_626 : (I_612 o 48).toInt = (I_350 o 48).toInt := by rw [← e_613, q_u_k (by decide)]
                  have t_627 : (I_612 o 49).toInt = (I_350 o 49).toInt := by rw [← e_613, q_u_k (by decide)]
                  have g_628 : (0 : Int) ≤ (I_612 o 6).toInt ∧ (I_612 o 6).toInt ≤ 1600 := hR_614.at0 ra 6 (by decide)
                  refine fun I_629 e_630 => ?_
                  have hR_631 : RI R I_629 := hR_614.up0 ra (by decide) e_630 (show (0 : Int) ≤ (I_612 o 6).toInt by omega) (show (I_612 o 6).toInt ≤ (1601 : Int) by omega)
                  have hf_632 : Fm (fun c => c = o) I0 I_629 := hf_615.set (by first | rfl | omega | (dsimp only; omega)) e_630
                  have t_633 : (I_629 o 6).toInt = (I_612 o 6).toInt := by rw [← e_630, q_u_k (by decide)]
                  have t_634 : (I_629 o 7).toInt = (I_612 o 6).toInt := by rw [← e_630, q_u_at]
                  have t_635 : (I_629 o 8).toInt = (I_612 o 8).toInt := by rw [← e_630, q_u_k (by decide)]
                  have t_636 : (I_629 o 9).toInt = (I_612 o 9).toInt := by rw [← e_630, q_u_k (by decide)]
                  have t_637 : (I_629 o 3).toInt = (I_612 o 3).toInt := by rw [← e_630, q_u_k (by decide)]
                  have t_638 : (I_629 o 4).toInt = (I_612 o 4).toInt := by rw [← e_630, q_u_k (by decide)]
                  have t_639 : (I_629 o 44).toInt = (I_612 o 44).toInt := by rw [← e_630, q_u_k (by decide)]
                  have t_640 : (I_629 o 45).toInt = (I_612 o 45).toInt := by rw [← e_630, q_u_k (by decide)]
                  have t_641 : (I_629 o 46).toInt = (I_612 o 46).toInt := by rw [← e_630, q_u_k (by decide)]
                  have t_642 : (I_629 o 47).toInt = (I_612 o 47).toInt := by rw [← e_630, q_u_k (by decide)]
                  have t_643 : (I_629 o 48).toInt = (I_612 o 48).toInt := by rw [← e_630, q_u_k (by decide)]
                  have t_644 : (I_629 o 49).toInt = (I_612 o 49).toInt := by rw [← e_630, q_u_k (by decide)]
                  exact yModel_next_363 (I0 := I0) (L0 := L0) hok hw ra hq0 hp  _ hR_631 hf_632 (by first | omega | (intro h; omega) | exact Or.inl rfl | exact Or.inr rfl) (by first | omega | (intro h; omega) | exact Or.inl rfl | exact Or.inr rfl) (by first | exact sgLo sc (by omega) (by omega) | exact sgLo (a := I o 6) rfl (by omega) (by omega)) (by first | exact sgHi sc (by omega) (by omega) | exact sgHi (a := I o 6) rfl (by omega) (by omega)) (by first | omega | (intro h; omega) | exact Or.inl rfl | exact Or.inr rfl) (by first | omega | (intro h; omega) | exact Or.inl rfl | exact Or.inr rfl) (by first | omega | (intro h; omega) | exact Or.inl rfl | exact Or.inr rfl) (by first | omega | (intro h; omega) | exact Or.inl rfl | exact Or.inr rfl) (by first | omega | (intro h; omega) | exact Or.inl rfl | exact Or.inr rfl) (by first | omega | (intro h; omega) | exact Or.inl rfl | exact Or.inr rfl) (by first | omega | (intro h; omega) | exact Or.inl rfl | exact Or.inr rfl) (by first | omega | (intro h; omega) | exact Or.inl rfl | exact Or.inr rfl) (by first | omega | (intro h; omega) | exact Or.inl rfl | exact Or.inr rfl) (Nat.lt_succ_self _)
              · have d_645 := iNe c_563
                exact yModel_next_223 (I0 := I0) (L0 := L0) hok hw ra hq0 hp  _ hR_352 hf_353 (by first | omega | (intro h; omega) | exact Or.inl rfl | exact Or.inr rfl) (by first | omega | (intro h; omega) | exact Or.inl rfl | exact Or.inr rfl) (by first | omega | (intro h; omega) | exact Or.inl rfl | exact Or.inr rfl) (by first | omega | (intro h; omega) | exact Or.inl rfl | exact Or.inr rfl) (by first | omega | (intro h; omega) | exact Or.inl rfl | exact Or.inr rfl) (by first | omega | (intro h; omega) | exact Or.inl rfl | exact Or.inr rfl) (by first | omega | (intro h; omega) | exact Or.inl rfl | exact Or.inr rfl) (by first | omega | (intro h; omega) | exact Or.inl rfl | exact Or.inr rfl) (by first | omega | (intro h; omega) | exact Or.inl rfl | exact Or.inr rfl) (by first | omega | (intro h; omega) | exact Or.inl rfl | exact Or.inr rfl) (by first | omega | (intro h; omega) | exact Or.inl rfl | exact Or.inr rfl) (Nat.lt_succ_self _)
            · have d_646 := iNle c_557
              have pr := u_556
              rw [hf_353 (o + 2) (by first | omega | (dsimp only; omega)), show I_350 o 3 = I0 o 3 from Int32.toInt_inj.mp (by omega), show I_350 o 6 = a1 from Int32.toInt_inj.mp (by omega)] at pr
              have dk := pr.dig (by omega) (by omega)
              have kl := sg_lt dk.1
              have o1 : (1 : Int32).toInt = 1 := rfl
              have ka : (a1 + 1).toInt = a1.toInt + (1 : Int32).toInt := tAdd (by omega) (by omega)
              have g_647 : (0 : Int) ≤ (I_350 o 6).toInt ∧ (I_350 o 6).toInt ≤ 1600 := hR_352.at0 ra 6 (by decide)
              have a_648 : ((I_350 o 6) + 1).toInt = (I_350 o 6).toInt + (1 : Int32).toInt := tAdd (by omega) (by omega)
              refine y_Model_pointAt hok hw ra (by first | omega | (intro h; omega) | exact Or.inl rfl | exact Or.inr rfl) hR_352 (fun r_649 u_650 u_651 => ⟨r_649, I_350, L, rfl, rfl, ?_⟩)
              have pr2 := u_651
              rw [hf_353 (o + 2) (by first | omega | (dsimp only; omega)), show I_350 o 3 = I0 o 3 from Int32.toInt_inj.mp (by omega), show I_350 o 6 = a1 from Int32.toInt_inj.mp (by omega)] at pr2
              have g_652 : (0 : Int) ≤ (I_350 o 6).toInt ∧ (I_350 o 6).toInt ≤ 1600 := hR_352.at0 ra 6 (by decide)
              have a_653 : ((I_350 o 6) + 1).toInt = (I_350 o 6).toInt + (1 : Int32).toInt := tAdd (by omega) (by omega)
              refine y_Model_sign hok hw ra (by first | omega | (intro h; omega) | exact Or.inl rfl | exact Or.inr rfl) hR_352 (fun r_654 u_655 u_656 => ⟨r_654, I_350, L, rfl, rfl, ?_⟩)
              have s1 := u_656
              rw [hf_353 (o + 2) (by first | omega | (dsimp only; omega)), show I_350 o 3 = I0 o 3 from Int32.toInt_inj.mp (by omega), show I_350 o 6 = a1 from Int32.toInt_inj.mp (by omega)] at s1
              have s1 := iEq s1
              have e48 : (48 : Int32).toInt = 48 := rfl
              have sb : (r_654 - 48).toInt = (r_654).toInt - (48 : Int32).toInt := tSub (by omega) (by omega)
              refine fun I_657 e_658 => ?_
              have hR_659 : RI R I_657 := hR_352.up0 ra (by decide) e_658 (i_lo _) (i_hi _)
              have hf_660 : Fm (fun c => c = o) I0 I_657 := hf_353.set (by first | rfl | omega | (dsimp only; omega)) e_658
              have t_661 : (I_657 o 6).toInt = (I_350 o 6).toInt := by rw [← e_658, q_u_k (by decide)]
              have t_662 : (I_657 o 7).toInt = (I_350 o 7).toInt := by rw [← e_658, q_u_k (by decide)]
              have t_663 : (I_657 o 8).toInt = (I_350 o 8).toInt := by rw [← e_658, q_u_k (by decide)]
              have t_664 : (I_657 o 9).toInt = (r_654 - 48).toInt := by rw [← e_658, q_u_at]
              have t_665 : (I_657 o 3).toInt = (I_350 o 3).toInt := by rw [← e_658, q_u_k (by decide)]
              have t_666 : (I_657 o 4).toInt = (I_350 o 4).toInt := by rw [← e_658, q_u_k (by decide)]
              have t_667 : (I_657 o 44).toInt = (I_350 o 44).toInt := by rw [← e_658, q_u_k (by decide)]
              have t_668 : (I_657 o 45).toInt = (I_350 o 45).toInt := by rw [← e_658, q_u_k (by decide)]
              have t_669 : (I_657 o 46).toInt = (I_350 o 46).toInt := by rw [← e_658, q_u_k (by decide)]
              have t_670 : (I_657 o 47).toInt = (I_350 o 47).toInt := by rw [← e_658, q_u_k (by decide)]
              have t_671 : (I_657 o 48).toInt = (I_350 o 48).toInt := by rw [← e_658, q_u_k (by decide)]
              have t_672 : (I_657 o 49).toInt = (I_350 o 49).toInt := by rw [← e_658, q_u_k (by decide)]
              have l_673 : (2 : Int32).toInt = 2 := rfl
              refine ⟨fun c_674 => ?_, fun c_674 => ?_⟩
              · have d_675 := iNe c_674
                unfold fModel_next_196
                have g_676 : (0 : Int) ≤ (I_657 o 6).toInt ∧ (I_657 o 6).toInt ≤ 1600 := hR_659.at0 ra 6 (by decide)
                have a_677 : ((I_657 o 6) + 1).toInt = (I_657 o 6).toInt + (1 : Int32).toInt := tAdd (by omega) (by omega)
                have a_678 : (((I_657 o 6) + 1) + r_649).toInt = ((I_657 o 6) + 1).toInt + r_649.toInt := tAdd (by omega) (by omega)
                refine fun I_679 e_680 => ?_
                have hR_681 : RI R I_679 := hR_659.up0 ra (by decide) e_680 (show (0 : Int) ≤ (((I_657 o 6) + 1) + r_649).toInt by omega) (show (((I_657 o 6) + 1) + r_649).toInt ≤ (1601 : Int) by omega)
                have hf_682 : Fm (fun c => c = o) I0 I_679 := hf_660.set (by first | rfl | omega | (dsimp only; omega)) e_680
                have t_683 : (I_679 o 6).toInt = (I_657 o 6).toInt := by rw [← e_680, q_u_k (by decide)]
                have t_684 : (I_679 o 7).toInt = (((I_657 o 6) + 1) + r_649).toInt := by rw [← e_680, q_u_at]
                have t_685 : (I_679 o 8).toInt = (I_657 o 8).toInt := by rw [← e_680, q_u_k (by decide)]
                have t_686 : (I_679 o 9).toInt = (I_657 o 9).toInt := by rw [← e_680, q_u_k (by decide)]
                have t_687 : (I_679 o 3).toInt = (I_657 o 3).toInt := by rw [← e_680, q_u_k (by decide)]
                have t_688 : (I_679 o 4).toInt = (I_657 o 4).toInt := by rw [← e_680, q_u_k (by decide)]
                have t_689 : (I_679 o 44).toInt = (I_657 o 44).toInt := by rw [← e_680, q_u_k (by decide)]
                have t_690 : (I_679 o 45).toInt = (I_657 o 45).toInt := by rw [← e_680, q_u_k (by decide)]
                have t_691 : (I_679 o 46).toInt = (I_657 o 46).toInt := by rw [← e_680, q_u_k (by decide)]
                have t_692 : (I_679 o 47).toInt = (I_657 o 47).toInt := by rw [← e_680, q_u_k (by decide)]
                have t_693 : (I_679 o 48).toInt = (I_657 o 48).toInt := by rw [← e_680, q_u_k (by decide)]
                have t_694 : (I_679 o 49).toInt = (I_657 o 49).toInt := by rw [← e_680, q_u_k (by decide)]
                have l_695 : (5 : Int32).toInt = 5 := rfl
                refine fun I_696 e_697 => ?_
                have hR_698 : RI R I_696 := hR_681.up0 ra (by decide) e_697 (i_lo _) (i_hi _)
                have hf_699 : Fm (fun c => c = o) I0 I_696 := hf_682.set (by first | rfl | omega | (dsimp only; omega)) e_697
                have t_700 : (I_696 o 6).toInt = (I_679 o 6).toInt := by rw [← e_697, q_u_k (by decide)]
                have t_701 : (I_696 o 7).toInt = (I_679 o 7).toInt := by rw [← e_697, q_u_k (by decide)]
                have t_702 : (I_696 o 8).toInt = (5 : Int32).toInt := by rw [← e_697, q_u_at]
                have t_703 : (I_696 o 9).toInt = (I_679 o 9).toInt := by rw [← e_697, q_u_k (by decide)]
                have t_704 : (I_696 o 3).toInt = (I_679 o 3).toInt := by rw [← e_697, q_u_k (by decide)]
                have t_705 : (I_696 o 4).toInt = (I_679 o 4).toInt := by rw [← e_697, q_u_k (by decide)]
                have t_706 : (I_696 o 44).toInt = (I_679 o 44).toInt := by rw [← e_697, q_u_k (by decide)]
                have t_707 : (I_696 o 45).toInt = (I_679 o 45).toInt := by rw [← e_697, q_u_k (by decide)]
                have t_708 : (I_696 o 46).toInt = (I_679 o 46).toInt := by rw [← e_697, q_u_k (by decide)]
                have t_709 : (I_696 o 47).toInt = (I_679 o 47).toInt := by rw [← e_697, q_u_k (by decide)]
                have t_710 : (I_696 o 48).toInt = (I_679 o 48).toInt := by rw [← e_697, q_u_k (by decide)]
                have t_711 : (I_696 o 49).toInt = (I_679 o 49).toInt := by rw [← e_697, q_u_k (by decide)]
                exact (hp _ _ hR_698 hf_699 (by first | omega | (intro h; omega) | exact Or.inl rfl | exact Or.inr rfl) (by first | omega | (intro h; omega) | exact Or.inl rfl | exact Or.inr rfl) (by intro _; omega) (by intro _; omega) (by first | omega | (intro h; omega) | exact Or.inl rfl | exact Or.inr rfl) (by first | omega | (intro h; omega) | exact Or.inl rfl | exact Or.inr rfl) (by first | omega | (intro h; omega) | exact Or.inl rfl | exact Or.inr rfl) (by first | omega | (intro h; omega) | exact Or.inl rfl | exact Or.inr rfl) (by first | omega | (intro h; omega) | exact Or.inl rfl | exact Or.inr rfl) (by first | omega | (intro h; omega) | exact Or.inl rfl | exact Or.inr rfl) (by first | omega | (intro h; omega) | exact Or.inl rfl | exact Or.inr rfl) (by first | omega | (intro h; omega) | exact Or.inl rfl | exact Or.inr rfl))
              · have d_712 := iEq c_674
                have tw := pr2.two (by omega)
                have kl2 := sg_lt tw.2.2.1
                have ka2 : (a1 + 1 + 1).toInt = (a1 + 1).toInt + (1 : Int32).toInt := tAdd (by omega) (by omega)
                have g_713 : (0 : Int) ≤ (I_657 o 6).toInt ∧ (I_657 o 6).toInt ≤ 1600 := hR_659.at0 ra 6 (by decide)
                have a_714 : ((I_657 o 6) + 2).toInt = (I_657 o 6).toInt + (2 : Int32).toInt := tAdd (by omega) (by omega)
                refine y_Model_sign hok hw ra (by first | omega | (intro h; omega) | exact Or.inl rfl | exact Or.inr rfl) hR_659 (fun r_715 u_716 u_717 => ⟨r_715, I_657, L, rfl, rfl, ?_⟩)
                have s2 := u_717
                rw [hf_660 (o + 2) (by first | omega | (dsimp only; omega)), show I_657 o 3 = I0 o 3 from Int32.toInt_inj.mp (by omega), show I_657 o 6 = a1 from Int32.toInt_inj.mp (by omega), show a1 + 2 = a1 + 1 + 1 by rw [Int32.add_assoc]; rfl] at s2
                have s2 := iEq s2
                have nn := mul10 (v := I_657 o 9) (c := r_715) (by omega) (by omega) (by omega) (by omega)
                refine fun I_718 e_719 => ?_
                have hR_720 : RI R I_718 := hR_659.up0 ra (by decide) e_719 (i_lo _) (i_hi _)
                have hf_721 : Fm (fun c => c = o) I0 I_718 := hf_660.set (by first | rfl | omega | (dsimp only; omega)) e_719
                have t_722 : (I_718 o 6).toInt = (I_657 o 6).toInt := by rw [← e_719, q_u_k (by decide)]
                have t_723 : (I_718 o 7).toInt = (I_657 o 7).toInt := by rw [← e_719, q_u_k (by decide)]
                have t_724 : (I_718 o 8).toInt = (I_657 o 8).toInt := by rw [← e_719, q_u_k (by decide)]
                have t_725 : (I_718 o 9).toInt = (((10 * (I_657 o 9)) + r_715) - 48).toInt := by rw [← e_719, q_u_at]
                have t_726 : (I_718 o 3).toInt = (I_657 o 3).toInt := by rw [← e_719, q_u_k (by decide)]
                have t_727 : (I_718 o 4).toInt = (I_657 o 4).toInt := by rw [← e_719, q_u_k (by decide)]
                have t_728 : (I_718 o 44).toInt = (I_657 o 44).toInt := by rw [← e_719, q_u_k (by decide)]
                have t_729 : (I_718 o 45).toInt = (I_657 o 45).toInt := by rw [← e_719, q_u_k (by decide)]
                have t_730 : (I_718 o 46).toInt = (I_657 o 46).toInt := by rw [← e_719, q_u_k (by decide)]
                have t_731 : (I_718 o 47).toInt = (I_657 o 47).toInt := by rw [← e_719, q_u_k (by decide)]
                have t_732 : (I_718 o 48).toInt = (I_657 o 48).toInt := by rw [← e_719, q_u_k (by decide)]
                have t_733 : (I_718 o 49).toInt = (I_657 o 49).toInt := by rw [← e_719, q_u_k (by decide)]
                unfold fModel_next_196
                have g_734 : (0 : Int) ≤ (I_718 o 6).toInt ∧ (I_718 o 6).toInt ≤ 1600 := hR_720.at0 ra 6 (by decide)
                have a_735 : ((I_718 o 6) + 1).toInt = (I_718 o 6).toInt + (1 : Int32).toInt := tAdd (by omega) (by omega)
                have a_736 : (((I_718 o 6) + 1) + r_649).toInt = ((I_718 o 6) + 1).toInt + r_649.toInt := tAdd (by omega) (by omega)
                refine fun I_737 e_738 => ?_
                have hR_739 : RI R I_737 := hR_720.up0 ra (by decide) e_738 (show (0 : Int) ≤ (((I_718 o 6) + 1) + r_649).toInt by omega) (show (((I_718 o 6) + 1) + r_649).toInt ≤ (1601 : Int) by omega)
                have hf_740 : Fm (fun c => c = o) I0 I_737 := hf_721.set (by first | rfl | omega | (dsimp only; omega)) e_738
                have t_741 : (I_737 o 6).toInt = (I_718 o 6).toInt := by rw [← e_738, q_u_k (by decide)]
                have t_742 : (I_737 o 7).toInt = (((I_718 o 6) + 1) + r_649).toInt := by rw [← e_738, q_u_at]
                have t_743 : (I_737 o 8).toInt = (I_718 o 8).toInt := by rw [← e_738, q_u_k (by decide)]
                have t_744 : (I_737 o 9).toInt = (I_718 o 9).toInt := by rw [← e_738, q_u_k (by decide)]
                have t_745 : (I_737 o 3).toInt = (I_718 o 3).toInt := by rw [← e_738, q_u_k (by decide)]
                have t_746 : (I_737 o 4).toInt = (I_718 o 4).toInt := by rw [← e_738, q_u_k (by decide)]
                have t_747 : (I_737 o 44).toInt = (I_718 o 44).toInt := by rw [← e_738, q_u_k (by decide)]
                have t_748 : (I_737 o 45).toInt = (I_718 o 45).toInt := by rw [← e_738, q_u_k (by decide)]
                have t_749 : (I_737 o 46).toInt = (I_718 o 46).toInt := by rw [← e_738, q_u_k (by decide)]
                have t_750 : (I_737 o 47).toInt = (I_718 o 47).toInt := by rw [← e_738, q_u_k (by decide)]
                have t_751 : (I_737 o 48).toInt = (I_718 o 48).toInt := by rw [← e_738, q_u_k (by decide)]
                have t_752 : (I_737 o 49).toInt = (I_718 o 49).toInt := by rw [← e_738, q_u_k (by decide)]
                have l_753 : (5 : Int32).toInt = 5 := rfl
                refine fun I_754 e_755 => ?_
                have hR_756 : RI R I_754 := hR_739.up0 ra (by decide) e_755 (i_lo _) (i_hi _)
                have hf_757 : Fm (fun c => c = o) I0 I_754 := hf_740.set (by first | rfl | omega | (dsimp only; omega)) e_755
                have t_758 : (I_754 o 6).toInt = (I_737 o 6).toInt := by rw [← e_755, q_u_k (by decide)]
                have t_759 : (I_754 o 7).toInt = (I_737 o 7).toInt := by rw [← e_755, q_u_k (by decide)]
                have t_760 : (I_754 o 8).toInt = (5 : Int32).toInt := by rw [← e_755, q_u_at]
                have t_761 : (I_754 o 9).toInt = (I_737 o 9).toInt := by rw [← e_755, q_u_k (by decide)]
                have t_762 : (I_754 o 3).toInt = (I_737 o 3).toInt := by rw [← e_755, q_u_k (by decide)]
                have t_763 : (I_754 o 4).toInt = (I_737 o 4).toInt := by rw [← e_755, q_u_k (by decide)]
                have t_764 : (I_754 o 44).toInt = (I_737 o 44).toInt := by rw [← e_755, q_u_k (by decide)]
                have t_765 : (I_754 o 45).toInt = (I_737 o 45).toInt := by rw [← e_755, q_u_k (by decide)]
                have t_766 : (I_754 o 46).toInt = (I_737 o 46).toInt := by rw [← e_755, q_u_k (by decide)]
                have t_767 : (I_754 o 47).toInt = (I_737 o 47).toInt := by rw [← e_755, q_u_k (by decide)]
                have t_768 : (I_754 o 48).toInt = (I_737 o 48).toInt := by rw [← e_755, q_u_k (by decide)]
                have t_769 : (I_754 o 49).toInt = (I_737 o 49).toInt := by rw [← e_755, q_u_k (by decide)]
                exact (hp _ _ hR_756 hf_757 (by first | omega | (intro h; omega) | exact Or.inl rfl | exact Or.inr rfl) (by first | omega | (intro h; omega) | exact Or.inl rfl | exact Or.inr rfl) (by intro _; omega) (by intro _; omega) (by first | omega | (intro h; omega) | exact Or.inl rfl | exact Or.inr rfl) (by first | omega | (intro h; omega) | exact Or.inl rfl | exact Or.inr rfl) (by first | omega | (intro h; omega) | exact Or.inl rfl | exact Or.inr rfl) (by first | omega | (intro h; omega) | exact Or.inl rfl | exact Or.inr rfl) (by first | omega | (intro h; omega) | exact Or.inl rfl | exact Or.inr rfl) (by first | omega | (intro h; omega) | exact Or.inl rfl | exact Or.inr rfl) (by first | omega | (intro h; omega) | exact Or.inl rfl | exact Or.inr rfl) (by first | omega | (intro h; omega) | exact Or.inl rfl | exact Or.inr rfl))
      · have d_770 := iNlt c_368
        have l_771 : (0 : Int32).toInt = 0 := rfl
        refine fun I_772 e_773 => ?_
        have hR_774 : RI R I_772 := hR_352.up0 ra (by decide) e_773 (i_lo _) (i_hi _)
        have hf_775 : Fm (fun c => c = o) I0 I_772 := hf_353.set (by first | rfl | omega | (dsimp only; omega)) e_773
        have t_776 : (I_772 o 6).toInt = (I_350 o 6).toInt := by rw [← e_773, q_u_k (by decide)]
        have t_777 : (I_772 o 7).toInt = (I_350 o 7).toInt := by rw [← e_773, q_u_k (by decide)]
        have t_778 : (I_772 o 8).toInt = (0 : Int32).toInt := by rw [← e_773, q_u_at]
        have t_779 : (I_772 o 9).toInt = (I_350 o 9).toInt := by rw [← e_773, q_u_k (by decide)]
        have t_780 : (I_772 o 3).toInt = (I_350 o 3).toInt := by rw [← e_773, q_u_k (by decide)]
        have t_781 : (I_772 o 4).toInt = (I_350 o 4).toInt := by rw [← e_773, q_u_k (by decide)]
        have t_782 : (I_772 o 44).toInt = (I_350 o 44).toInt := by rw [← e_773, q_u_k (by decide)]
        have t_783 : (I_772 o 45).toInt = (I_350 o 45).toInt := by rw [← e_773, q_u_k (by decide)]
        have t_784 : (I_772 o 46).toInt = (I_350 o 46).toInt := by rw [← e_773, q_u_k (by decide)]
        have t_785 : (I_772 o 47).toInt = (I_350 o 47).toInt := by rw [← e_773, q_u_k (by decide)]
        have t_786 : (I_772 o 48).toInt = (I_350 o 48).toInt := by rw [← e_773, q_u_k (by decide)]
        have t_787 : (I_772 o 49).toInt = (I_350 o 49).toInt := by rw [← e_773, q_u_k (by decide)]
        have g_788 : (0 : Int) ≤ (I_772 o 3).toInt ∧ (I_772 o 3).toInt ≤ 1600 := hR_774.at0 ra 3 (by decide)
        refine fun I_789 e_790 => ?_
        have hR_791 : RI R I_789 := hR_774.up0 ra (by decide) e_790 (show (0 : Int) ≤ (I_772 o 3).toInt by omega) (show (I_772 o 3).toInt ≤ (1600 : Int) by omega)
        have hf_792 : Fm (fun c => c = o) I0 I_789 := hf_775.set (by first | rfl | omega | (dsimp only; omega)) e_790
        have t_793 : (I_789 o 6).toInt = (I_772 o 3).toInt := by rw [← e_790, q_u_at]
        have t_794 : (I_789 o 7).toInt = (I_772 o 7).toInt := by rw [← e_790, q_u_k (by decide)]
        have t_795 : (I_789 o 8).toInt = (I_772 o 8).toInt := by rw [← e_790, q_u_k (by decide)]
        have t_796 : (I_789 o 9).toInt = (I_772 o 9).toInt := by rw [← e_790, q_u_k (by decide)]
        have t_797 : (I_789 o 3).toInt = (I_772 o 3).toInt := by rw [← e_790, q_u_k (by decide)]
        have t_798 : (I_789 o 4).toInt = (I_772 o 4).toInt := by rw [← e_790, q_u_k (by decide)]
        have t_799 : (I_789 o 44).toInt = (I_772 o 44).toInt := by rw [← e_790, q_u_k (by decide)]
        have t_800 : (I_789 o 45).toInt = (I_772 o 45).toInt := by rw [← e_790, q_u_k (by decide)]
        have t_801 : (I_789 o 46).toInt = (I_772 o 46).toInt := by rw [← e_790, q_u_k (by decide)]
        have t_802 : (I_789 o 47).toInt = (I_772 o 47).toInt := by rw [← e_790, q_u_k (by decide)]
        have t_803 : (I_789 o 48).toInt = (I_772 o 48).toInt := by rw [← e_790, q_u_k (by decide)]
        have t_804 : (I_789 o 49).toInt = (I_772 o 49).toInt := by rw [← e_790, q_u_k (by decide)]
        have g_805 : (0 : Int) ≤ (I_789 o 3).toInt ∧ (I_789 o 3).toInt ≤ 1600 := hR_791.at0 ra 3 (by decide)
        refine fun I_806 e_807 => ?_
        have hR_808 : RI R I_806 := hR_791.up0 ra (by decide) e_807 (show (0 : Int) ≤ (I_789 o 3).toInt by omega) (show (I_789 o 3).toInt ≤ (1601 : Int) by omega)
        have hf_809 : Fm (fun c => c = o) I0 I_806 := hf_792.set (by first | rfl | omega | (dsimp only; omega)) e_807
        have t_810 : (I_806 o 6).toInt = (I_789 o 6).toInt := by rw [← e_807, q_u_k (by decide)]
        have t_811 : (I_806 o 7).toInt = (I_789 o 3).toInt := by rw [← e_807, q_u_at]
        have t_812 : (I_806 o 8).toInt = (I_789 o 8).toInt := by rw [← e_807, q_u_k (by decide)]
        have t_813 : (I_806 o 9).toInt = (I_789 o 9).toInt := by rw [← e_807, q_u_k (by decide)]
        have t_814 : (I_806 o 3).toInt = (I_789 o 3).toInt := by rw [← e_807, q_u_k (by decide)]
        have t_815 : (I_806 o 4).toInt = (I_789 o 4).toInt := by rw [← e_807, q_u_k (by decide)]
        have t_816 : (I_806 o 44).toInt = (I_789 o 44).toInt := by rw [← e_807, q_u_k (by decide)]
        have t_817 : (I_806 o 45).toInt = (I_789 o 45).toInt := by rw [← e_807, q_u_k (by decide)]
        have t_818 : (I_806 o 46).toInt = (I_789 o 46).toInt := by rw [← e_807, q_u_k (by decide)]
        have t_819 : (I_806 o 47).toInt = (I_789 o 47).toInt := by rw [← e_807, q_u_k (by decide)]
        have t_820 : (I_806 o 48).toInt = (I_789 o 48).toInt := by rw [← e_807, q_u_k (by decide)]
        have t_821 : (I_806 o 49).toInt = (I_789 o 49).toInt := by rw [← e_807, q_u_k (by decide)]
        exact (hp _ _ hR_808 hf_809 (by first | omega | (intro h; omega) | exact Or.inl rfl | exact Or.inr rfl) (by first | omega | (intro h; omega) | exact Or.inl rfl | exact Or.inr rfl) (by intro _; omega) (by intro _; omega) (by first | omega | (intro h; omega) | exact Or.inl rfl | exact Or.inr rfl) (by first | omega | (intro h; omega) | exact Or.inl rfl | exact Or.inr rfl) (by first | omega | (intro h; omega) | exact Or.inl rfl | exact Or.inr rfl) (by first | omega | (intro h; omega) | exact Or.inl rfl | exact Or.inr rfl) (by first | omega | (intro h; omega) | exact Or.inl rfl | exact Or.inr rfl) (by first | omega | (intro h; omega) | exact Or.inl rfl | exact Or.inr rfl) (by first | omega | (intro h; omega) | exact Or.inl rfl | exact Or.inr rfl) (by first | omega | (intro h; omega) | exact Or.inl rfl | exact Or.inr rfl))
    · have d_822 := iNle c_341
      have g_823 : (0 : Int) ≤ (I o 6).toInt ∧ (I o 6).toInt ≤ 1600 := hR.at0 ra 6 (by decide)
      refine y_Model_sign hok hw ra (by first | omega | (intro h; omega) | exact Or.inl rfl | exact Or.inr rfl) hR (fun r_824 u_825 u_826 => ⟨r_824, I, L, rfl, rfl, ?_⟩)
      have l_827 : (32 : Int32).toInt = 32 := rfl
      refine ⟨fun c_828 => ?_, fun c_828 => ?_⟩
      · have d_829 := iEq c_828
        unfold fModel_next_45
        have g_830 : (0 : Int) ≤ (I o 6).toInt ∧ (I o 6).toInt ≤ 1600 := hR.at0 ra 6 (by decide)
        have l_831 : (1 : Int32).toInt = 1 := rfl
        have a_832 : ((I o 6) + 1).toInt = (I o 6).toInt + (1 : Int32).toInt := tAdd (by omega) (by omega)
        refine fun I_833 e_834 => ?_
        have hR_835 : RI R I_833 := hR.up0 ra (by decide) e_834 (show (0 : Int) ≤ ((I o 6) + 1).toInt by omega) (show ((I o 6) + 1).toInt ≤ (1600 : Int) by omega)
        have hf_836 : Fm (fun c => c = o) I0 I_833 := hf.set (by first | rfl | omega | (dsimp only; omega)) e_834
        have t_837 : (I_833 o 6).toInt = ((I o 6) + 1).toInt := by rw [← e_834, q_u_at]
        have t_838 : (I_833 o 7).toInt = (I o 7).toInt := by rw [← e_834, q_u_k (by decide)]
        have t_839 : (I_833 o 8).toInt = (I o 8).toInt := by rw [← e_834, q_u_k (by decide)]
        have t_840 : (I_833 o 9).toInt = (I o 9).toInt := by rw [← e_834, q_u_k (by decide)]
        have t_841 : (I_833 o 3).toInt = (I o 3).toInt := by rw [← e_834, q_u_k (by decide)]
        have t_842 : (I_833 o 4).toInt = (I o 4).toInt := by rw [← e_834, q_u_k (by decide)]
        have t_843 : (I_833 o 44).toInt = (I o 44).toInt := by rw [← e_834, q_u_k (by decide)]
        have t_844 : (I_833 o 45).toInt = (I o 45).toInt := by rw [← e_834, q_u_k (by decide)]
        have t_845 : (I_833 o 46).toInt = (I o 46).toInt := by rw [← e_834, q_u_k (by decide)]
        have t_846 : (I_833 o 47).toInt = (I o 47).toInt := by rw [← e_834, q_u_k (by decide)]
        have t_847 : (I_833 o 48).toInt = (I o 48).toInt := by rw [← e_834, q_u_k (by decide)]
        have t_848 : (I_833 o 49).toInt = (I o 49).toInt := by rw [← e_834, q_u_k (by decide)]
        exact ih hR_835 hf_836 (by first | omega | (intro h; omega) | exact Or.inl rfl | exact Or.inr rfl) (by first | omega | (intro h; omega) | exact Or.inl rfl | exact Or.inr rfl) (by first | omega | (intro h; omega) | exact Or.inl rfl | exact Or.inr rfl) (by first | omega | (intro h; omega) | exact Or.inl rfl | exact Or.inr rfl) (by first | omega | (intro h; omega) | exact Or.inl rfl | exact Or.inr rfl) (by first | omega | (intro h; omega) | exact Or.inl rfl | exact Or.inr rfl) (by first | omega | (intro h; omega) | exact Or.inl rfl | exact Or.inr rfl) (by first | omega | (intro h; omega) | exact Or.inl rfl | exact Or.inr rfl) (by first | omega | (intro h; omega) | exact Or.inl rfl | exact Or.inr rfl) (by first | omega | (intro h; omega) | exact Or.inl rfl | exact Or.inr rfl) (by first | omega | (intro h; omega) | exact Or.inl rfl | exact Or.inr rfl) (by first | omega | (intro h; omega) | exact Or.inl rfl | exact Or.inr rfl) (by omega)
      · have d_849 := iNe c_828
        have g_850 : (0 : Int) ≤ (I o 6).toInt ∧ (I o 6).toInt ≤ 1600 := hR.at0 ra 6 (by decide)
        refine y_Model_sign hok hw ra (by first | omega | (intro h; omega) | exact Or.inl rfl | exact Or.inr rfl) hR (fun r_851 u_852 u_853 => ⟨r_851, I, L, rfl, rfl, ?_⟩)
        have l_854 : (10 : Int32).toInt = 10 := rfl
        refine ⟨fun c_855 => ?_, fun c_855 => ?_⟩
        · have d_856 := iNe c_855
          unfold fModel_next_58
          have g_857 : (0 : Int) ≤ (I o 6).toInt ∧ (I o 6).toInt ≤ 1600 := hR.at0 ra 6 (by decide)
          refine y_Model_sign hok hw ra (by first | omega | (intro h; omega) | exact Or.inl rfl | exact Or.inr rfl) hR (fun r_858 u_859 u_860 => ⟨r_858, I, L, rfl, rfl, ?_⟩)
          obtain ⟨a1, ha1⟩ : ∃ a, a = I o 6 := ⟨_, rfl⟩
          have hA : a1.toInt = (I o 6).toInt := by rw [ha1]
          have sc := u_860
          rw [hf (o + 2) (by first | omega | (dsimp only; omega)), show I o 3 = I0 o 3 from Int32.toInt_inj.mp (by omega), show I o 6 = a1 from Int32.toInt_inj.mp (by omega)] at sc
          have g_861 : (0 : Int) ≤ (I o 6).toInt ∧ (I o 6).toInt ≤ 1600 := hR.at0 ra 6 (by decide)
          have l_862 : (1 : Int32).toInt = 1 := rfl
          have a_863 : ((I o 6) + 1).toInt = (I o 6).toInt + (1 : Int32).toInt := tAdd (by omega) (by omega)
          refine fun I_864 e_865 => ?_
          have hR_866 : RI R I_864 := hR.up0 ra (by decide) e_865 (show (0 : Int) ≤ ((I o 6) + 1).toInt by omega) (show ((I o 6) + 1).toInt ≤ (1601 : Int) by omega)
          have hf_867 : Fm (fun c => c = o) I0 I_864 := hf.set (by first | rfl | omega | (dsimp only; omega)) e_865
          have t_868 : (I_864 o 6).toInt = (I o 6).toInt := by rw [← e_865, q_u_k (by decide)]
          have t_869 : (I_864 o 7).toInt = ((I o 6) + 1).toInt := by rw [← e_865, q_u_at]
          have t_870 : (I_864 o 8).toInt = (I o 8).toInt := by rw [← e_865, q_u_k (by decide)]
          have t_871 : (I_864 o 9).toInt = (I o 9).toInt := by rw [← e_865, q_u_k (by decide)]
          have t_872 : (I_864 o 3).toInt = (I o 3).toInt := by rw [← e_865, q_u_k (by decide)]
          have t_873 : (I_864 o 4).toInt = (I o 4).toInt := by rw [← e_865, q_u_k (by decide)]
          have t_874 : (I_864 o 44).toInt = (I o 44).toInt := by rw [← e_865, q_u_k (by decide)]
          have t_875 : (I_864 o 45).toInt = (I o 45).toInt := by rw [← e_865, q_u_k (by decide)]
          have t_876 : (I_864 o 46).toInt = (I o 46).toInt := by rw [← e_865, q_u_k (by decide)]
          have t_877 : (I_864 o 47).toInt = (I o 47).toInt := by rw [← e_865, q_u_k (by decide)]
          have t_878 : (I_864 o 48).toInt = (I o 48).toInt := by rw [← e_865, q_u_k (by decide)]
          have t_879 : (I_864 o 49).toInt = (I o 49).toInt := by rw [← e_865, q_u_k (by decide)]
          have g_880 : (0 : Int) ≤ (I_864 o 6).toInt ∧ (I_864 o 6).toInt ≤ 1600 := hR_866.at0 ra 6 (by decide)
          have g_881 : (0 : Int) ≤ (I_864 o 3).toInt ∧ (I_864 o 3).toInt ≤ 1600 := hR_866.at0 ra 3 (by decide)
          refine ⟨fun c_882 => ?_, fun c_882 => ?_⟩
          · have d_883 := iLt c_882
            have l_884 : (0 : Int32).toInt = 0 := rfl
            refine ⟨fun c_885 => ?_, fun c_885 => ?_⟩
            · have d_886 := iNe c_885
              unfold fModel_next_216
              refine y_Model_isLetter hok hR_866 (fun r_887 u_888 u_889 => ⟨r_887, I_864, L, rfl, rfl, ?_⟩)
              have b_890 : 0 ≤ r_887.toInt ∧ r_887.toInt ≤ 1 := u_888.rg
              refine ⟨fun c_891 => ?_, fun c_891 => ?_⟩
              · have d_892 := iEq c_891
                refine y_Model_isDigit hok hR_866 (fun r_893 u_894 u_895 u_896 => ⟨r_893, I_864, L, rfl, rfl, ?_⟩)
                have b_897 : 0 ≤ r_893.toInt ∧ r_893.toInt ≤ 1 := u_894.rg
                refine ⟨fun c_898 => ?_, fun c_898 => ?_⟩
                · have d_899 := iEq c_898
                  refine y_Model_isSign hok hR_866 (fun r_900 u_901 => ⟨r_900, I_864, L, rfl, rfl, ?_⟩)
                  have b_902 : 0 ≤ r_900.toInt ∧ r_900.toInt ≤ 1 := u_901.rg
                  refine ⟨fun c_903 => ?_, fun c_903 => ?_⟩
                  · have d_904 := iEq c_903
                    refine fun I_905 e_906 => ?_
                    have hR_907 : RI R I_905 := hR_866.up0 ra (by decide) e_906 (i_lo _) (i_hi _)
                    have hf_908 : Fm (fun c => c = o) I0 I_905 := hf_867.set (by first | rfl | omega | (dsimp only; omega)) e_906
                    have t_909 : (I_905 o 6).toInt = (I_864 o 6).toInt := by rw [← e_906, q_u_k (by decide)]
                    have t_910 : (I_905 o 7).toInt = (I_864 o 7).toInt := by rw [← e_906, q_u_k (by decide)]
                    have t_911 : (I_905 o 8).toInt = (1 : Int32).toInt := by rw [← e_906, q_u_at]
                    have t_912 : (I_905 o 9).toInt = (I_864 o 9).toInt := by rw [← e_906, q_u_k (by decide)]
                    have t_913 : (I_905 o 3).toInt = (I_864 o 3).toInt := by rw [← e_906, q_u_k (by decide)]
                    have t_914 : (I_905 o 4).toInt = (I_864 o 4).toInt := by rw [← e_906, q_u_k (by decide)]
                    have t_915 : (I_905 o 44).toInt = (I_864 o 44).toInt := by rw [← e_906, q_u_k (by decide)]
                    have t_916 : (I_905 o 45).toInt = (I_864 o 45).toInt := by rw [← e_906, q_u_k (by decide)]
                    have t_917 : (I_905 o 46).toInt = (I_864 o 46).toInt := by rw [← e_906, q_u_k (by decide)]
                    have t_918 : (I_905 o 47).toInt = (I_864 o 47).toInt := by rw [← e_906, q_u_k (by decide)]
                    have t_919 : (I_905 o 48).toInt = (I_864 o 48).toInt := by rw [← e_906, q_u_k (by decide)]
                    have t_920 : (I_905 o 49).toInt = (I_864 o 49).toInt := by rw [← e_906, q_u_k (by decide)]
                    exact (hp _ _ hR_907 hf_908 (by first | omega | (intro h; omega) | exact Or.inl rfl | exact Or.inr rfl) (by first | omega | (intro h; omega) | exact Or.inl rfl | exact Or.inr rfl) (by intro _; omega) (by intro _; omega) (by first | omega | (intro h; omega) | exact Or.inl rfl | exact Or.inr rfl) (by first | omega | (intro h; omega) | exact Or.inl rfl | exact Or.inr rfl) (by first | omega | (intro h; omega) | exact Or.inl rfl | exact Or.inr rfl) (by first | omega | (intro h; omega) | exact Or.inl rfl | exact Or.inr rfl) (by first | omega | (intro h; omega) | exact Or.inl rfl | exact Or.inr rfl) (by first | omega | (intro h; omega) | exact Or.inl rfl | exact Or.inr rfl) (by first | omega | (intro h; omega) | exact Or.inl rfl | exact Or.inr rfl) (by first | omega | (intro h; omega) | exact Or.inl rfl | exact Or.inr rfl))
                  · have d_921 := iNe c_903
                    have l_922 : (6 : Int32).toInt = 6 := rfl
                    refine fun I_923 e_924 => ?_
                    have hR_925 : RI R I_923 := hR_866.up0 ra (by decide) e_924 (i_lo _) (i_hi _)
                    have hf_926 : Fm (fun c => c = o) I0 I_923 := hf_867.set (by first | rfl | omega | (dsimp only; omega)) e_924
                    have t_927 : (I_923 o 6).toInt = (I_864 o 6).toInt := by rw [← e_924, q_u_k (by decide)]
                    have t_928 : (I_923 o 7).toInt = (I_864 o 7).toInt := by rw [← e_924, q_u_k (by decide)]
                    have t_929 : (I_923 o 8).toInt = (6 : Int32).toInt := by rw [← e_924, q_u_at]
                    have t_930 : (I_923 o 9).toInt = (I_864 o 9).toInt := by rw [← e_924, q_u_k (by decide)]
                    have t_931 : (I_923 o 3).toInt = (I_864 o 3).toInt := by rw [← e_924, q_u_k (by decide)]
                    have t_932 : (I_923 o 4).toInt = (I_864 o 4).toInt := by rw [← e_924, q_u_k (by decide)]
                    have t_933 : (I_923 o 44).toInt = (I_864 o 44).toInt := by rw [← e_924, q_u_k (by decide)]
                    have t_934 : (I_923 o 45).toInt = (I_864 o 45).toInt := by rw [← e_924, q_u_k (by decide)]
                    have t_935 : (I_923 o 46).toInt = (I_864 o 46).toInt := by rw [← e_924, q_u_k (by decide)]
                    have t_936 : (I_923 o 47).toInt = (I_864 o 47).toInt := by rw [← e_924, q_u_k (by decide)]
                    have t_937 : (I_923 o 48).toInt = (I_864 o 48).toInt := by rw [← e_924, q_u_k (by decide)]
                    have t_938 : (I_923 o 49).toInt = (I_864 o 49).toInt := by rw [← e_924, q_u_k (by decide)]
                    exact (hp _ _ hR_925 hf_926 (by first | omega | (intro h; omega) | exact Or.inl rfl | exact Or.inr rfl) (by first | omega | (intro h; omega) | exact Or.inl rfl | exact Or.inr rfl) (by intro _; omega) (by intro _; omega) (by first | omega | (intro h; omega) | exact Or.inl rfl | exact Or.inr rfl) (by first | omega | (intro h; omega) | exact Or.inl rfl | exact Or.inr rfl) (by first | omega | (intro h; omega) | exact Or.inl rfl | exact Or.inr rfl) (by first | omega | (intro h; omega) | exact Or.inl rfl | exact Or.inr rfl) (by first | omega | (intro h; omega) | exact Or.inl rfl | exact Or.inr rfl) (by first | omega | (intro h; omega) | exact Or.inl rfl | exact Or.inr rfl) (by first | omega | (intro h; omega) | exact Or.inl rfl | exact Or.inr rfl) (by first | omega | (intro h; omega) | exact Or.inl rfl | exact Or.inr rfl))
                · have d_939 := iNe c_898
                  have dc := u_895 (by omega)
                  refine fun I_940 e_941 => ?_
                  have hR_942 : RI R I_940 := hR_866.up0 ra (by decide) e_941 (i_lo _) (i_hi _)
                  have hf_943 : Fm (fun c => c = o) I0 I_940 := hf_867.set (by first | rfl | omega | (dsimp only; omega)) e_941
                  have t_944 : (I_940 o 6).toInt = (I_864 o 6).toInt := by rw [← e_941, q_u_k (by decide)]
                  have t_945 : (I_940 o 7).toInt = (I_864 o 7).toInt := by rw [← e_941, q_u_k (by decide)]
                  have t_946 : (I_940 o 8).toInt = (I_864 o 8).toInt := by rw [← e_941, q_u_k (by decide)]
                  have t_947 : (I_940 o 9).toInt = (0 : Int32).toInt := by rw [← e_941, q_u_at]
                  have t_948 : (I_940 o 3).toInt = (I_864 o 3).toInt := by rw [← e_941, q_u_k (by decide)]
                  have t_949 : (I_940 o 4).toInt = (I_864 o 4).toInt := by rw [← e_941, q_u_k (by decide)]
                  have t_950 : (I_940 o 44).toInt = (I_864 o 44).toInt := by rw [← e_941, q_u_k (by decide)]
                  have t_951 : (I_940 o 45).toInt = (I_864 o 45).toInt := by rw [← e_941, q_u_k (by decide)]
                  have t_952 : (I_940 o 46).toInt = (I_864 o 46).toInt := by rw [← e_941, q_u_k (by decide)]
                  have t_953 : (I_940 o 47).toInt = (I_864 o 47).toInt := by rw [← e_941, q_u_k (by decide)]
                  have t_954 : (I_940 o 48).toInt = (I_864 o 48).toInt := by rw [← e_941, q_u_k (by decide)]
                  have t_955 : (I_940 o 49).toInt = (I_864 o 49).toInt := by rw [← e_941, q_u_k (by decide)]
                  have g_956 : (0 : Int) ≤ (I_940 o 6).toInt ∧ (I_940 o 6).toInt ≤ 1600 := hR_942.at0 ra 6 (by decide)
                  refine fun I_957 e_958 => ?_
                  have hR_959 : RI R I_957 := hR_942.up0 ra (by decide) e_958 (show (0 : Int) ≤ (I_940 o 6).toInt by omega) (show (I_940 o 6).toInt ≤ (1601 : Int) by omega)
                  have hf_960 : Fm (fun c => c = o) I0 I_957 := hf_943.set (by first | rfl | omega | (dsimp only; omega)) e_958
                  have t_961 : (I_957 o 6).toInt = (I_940 o 6).toInt := by rw [← e_958, q_u_k (by decide)]
                  have t_962 : (I_957 o 7).toInt = (I_940 o 6).toInt := by rw [← e_958, q_u_at]
                  have t_963 : (I_957 o 8).toInt = (I_940 o 8).toInt := by rw [← e_958, q_u_k (by decide)]
                  have t_964 : (I_957 o 9).toInt = (I_940 o 9).toInt := by rw [← e_958, q_u_k (by decide)]
                  have t_965 : (I_957 o 3).toInt = (I_940 o 3).toInt := by rw [← e_958, q_u_k (by decide)]
                  have t_966 : (I_957 o 4).toInt = (I_940 o 4).toInt := by rw [← e_958, q_u_k (by decide)]
                  have t_967 : (I_957 o 44).toInt = (I_940 o 44).toInt := by rw [← e_958, q_u_k (by decide)]
                  have t_968 : (I_957 o 45).toInt = (I_940 o 45).toInt := by rw [← e_958, q_u_k (by decide)]
                  have t_969 : (I_957 o 46).toInt = (I_940 o 46).toInt := by rw [← e_958, q_u_k (by decide)]
                  have t_970 : (I_957 o 47).toInt = (I_940 o 47).toInt := by rw [← e_958, q_u_k (by decide)]
                  have t_971 : (I_957 o 48).toInt = (I_940 o 48).toInt := by rw [← e_958, q_u_k (by decide)]
                  have t_972 : (I_957 o 49).toInt = (I_940 o 49).toInt := by rw [← e_958, q_u_k (by decide)]
                  exact yModel_next_363 (I0 := I0) (L0 := L0) hok hw ra hq0 hp  _ hR_959 hf_960 (by first | omega | (intro h; omega) | exact Or.inl rfl | exact Or.inr rfl) (by first | omega | (intro h; omega) | exact Or.inl rfl | exact Or.inr rfl) (by first | exact sgLo sc (by omega) (by omega) | exact sgLo (a := I o 6) rfl (by omega) (by omega)) (by first | exact sgHi sc (by omega) (by omega) | exact sgHi (a := I o 6) rfl (by omega) (by omega)) (by first | omega | (intro h; omega) | exact Or.inl rfl | exact Or.inr rfl) (by first | omega | (intro h; omega) | exact Or.inl rfl | exact Or.inr rfl) (by first | omega | (intro h; omega) | exact Or.inl rfl | exact Or.inr rfl) (by first | omega | (intro h; omega) | exact Or.inl rfl | exact Or.inr rfl) (by first | omega | (intro h; omega) | exact Or.inl rfl | exact Or.inr rfl) (by first | omega | (intro h; omega) | exact Or.inl rfl | exact Or.inr rfl) (by first | omega | (intro h; omega) | exact Or.inl rfl | exact Or.inr rfl) (by first | omega | (intro h; omega) | exact Or.inl rfl | exact Or.inr rfl) (by first | omega | (intro h; omega) | exact Or.inl rfl | exact Or.inr rfl) (Nat.lt_succ_self _)
              · have d_973 := iNe c_891
                exact yModel_next_223 (I0 := I0) (L0 := L0) hok hw ra hq0 hp  _ hR_866 hf_867 (by first | omega | (intro h; omega) | exact Or.inl rfl | exact Or.inr rfl) (by first | omega | (intro h; omega) | exact Or.inl rfl | exact Or.inr rfl) (by first | omega | (intro h; omega) | exact Or.inl rfl | exact Or.inr rfl) (by first | omega | (intro h; omega) | exact Or.inl rfl | exact Or.inr rfl) (by first | omega | (intro h; omega) | exact Or.inl rfl | exact Or.inr rfl) (by first | omega | (intro h; omega) | exact Or.inl rfl | exact Or.inr rfl) (by first | omega | (intro h; omega) | exact Or.inl rfl | exact Or.inr rfl) (by first | omega | (intro h; omega) | exact Or.inl rfl | exact Or.inr rfl) (by first | omega | (intro h; omega) | exact Or.inl rfl | exact Or.inr rfl) (by first | omega | (intro h; omega) | exact Or.inl rfl | exact Or.inr rfl) (by first | omega | (intro h; omega) | exact Or.inl rfl | exact Or.inr rfl) (Nat.lt_succ_self _)
            · have d_974 := iEq c_885
              have l_975 : (112 : Int32).toInt = 112 := rfl
              refine ⟨fun c_976 => ?_, fun c_976 => ?_⟩
              · have d_977 := iNe c_976
                unfold fModel_next_216
                refine y_Model_isLetter hok hR_866 (fun r_978 u_979 u_980 => ⟨r_978, I_864, L, rfl, rfl, ?_⟩)
                have b_981 : 0 ≤ r_978.toInt ∧ r_978.toInt ≤ 1 := u_979.rg
                refine ⟨fun c_982 => ?_, fun c_982 => ?_⟩
                · have d_983 := iEq c_982
                  refine y_Model_isDigit hok hR_866 (fun r_984 u_985 u_986 u_987 => ⟨r_984, I_864, L, rfl, rfl, ?_⟩)
                  have b_988 : 0 ≤ r_984.toInt ∧ r_984.toInt ≤ 1 := u_985.rg
                  refine ⟨fun c_989 => ?_, fun c_989 => ?_⟩
                  · have d_990 := iEq c_989
                    refine y_Model_isSign hok hR_866 (fun r_991 u_992 => ⟨r_991, I_864, L, rfl, rfl, ?_⟩)
                    have b_993 : 0 ≤ r_991.toInt ∧ r_991.toInt ≤ 1 := u_992.rg
                    refine ⟨fun c_994 => ?_, fun c_994 => ?_⟩
                    · have d_995 := iEq c_994
                      refine fun I_996 e_997 => ?_
                      have hR_998 : RI R I_996 := hR_866.up0 ra (by decide) e_997 (i_lo _) (i_hi _)
                      have hf_999 : Fm (fun c => c = o) I0 I_996 := hf_867.set (by first | rfl | omega | (dsimp only; omega)) e_997
                      have t_1000 : (I_996 o 6).toInt = (I_864 o 6).toInt := by rw [← e_997, q_u_k (by decide)]
                      have t_1001 : (I_996 o 7).toInt = (I_864 o 7).toInt := by rw [← e_997, q_u_k (by decide)]
                      have t_1002 : (I_996 o 8).toInt = (1 : Int32).toInt := by rw [← e_997, q_u_at]
                      have t_1003 : (I_996 o 9).toInt = (I_864 o 9).toInt := by rw [← e_997, q_u_k (by decide)]
                      have t_1004 : (I_996 o 3).toInt = (I_864 o 3).toInt := by rw [← e_997, q_u_k (by decide)]
                      have t_1005 : (I_996 o 4).toInt = (I_864 o 4).toInt := by rw [← e_997, q_u_k (by decide)]
                      have t_1006 : (I_996 o 44).toInt = (I_864 o 44).toInt := by rw [← e_997, q_u_k (by decide)]
                      have t_1007 : (I_996 o 45).toInt = (I_864 o 45).toInt := by rw [← e_997, q_u_k (by decide)]
                      have t_1008 : (I_996 o 46).toInt = (I_864 o 46).toInt := by rw [← e_997, q_u_k (by decide)]
                      have t_1009 : (I_996 o 47).toInt = (I_864 o 47).toInt := by rw [← e_997, q_u_k (by decide)]
                      have t_1010 : (I_996 o 48).toInt = (I_864 o 48).toInt := by rw [← e_997, q_u_k (by decide)]
                      have t_1011 : (I_996 o 49).toInt = (I_864 o 49).toInt := by rw [← e_997, q_u_k (by decide)]
                      exact (hp _ _ hR_998 hf_999 (by first | omega | (intro h; omega) | exact Or.inl rfl | exact Or.inr rfl) (by first | omega | (intro h; omega) | exact Or.inl rfl | exact Or.inr rfl) (by intro _; omega) (by intro _; omega) (by first | omega | (intro h; omega) | exact Or.inl rfl | exact Or.inr rfl) (by first | omega | (intro h; omega) | exact Or.inl rfl | exact Or.inr rfl) (by first | omega | (intro h; omega) | exact Or.inl rfl | exact Or.inr rfl) (by first | omega | (intro h; omega) | exact Or.inl rfl | exact Or.inr rfl) (by first | omega | (intro h; omega) | exact Or.inl rfl | exact Or.inr rfl) (by first | omega | (intro h; omega) | exact Or.inl rfl | exact Or.inr rfl) (by first | omega | (intro h; omega) | exact Or.inl rfl | exact Or.inr rfl) (by first | omega | (intro h; omega) | exact Or.inl rfl | exact Or.inr rfl))
                    · have d_1012 := iNe c_994
                      have l_1013 : (6 : Int32).toInt = 6 := rfl
                      refine fun I_1014 e_1015 => ?_
                      have hR_1016 : RI R I_1014 := hR_866.up0 ra (by decide) e_1015 (i_lo _) (i_hi _)
                      have hf_1017 : Fm (fun c => c = o) I0 I_1014 := hf_867.set (by first | rfl | omega | (dsimp only; omega)) e_1015
                      have t_1018 : (I_1014 o 6).toInt = (I_864 o 6).toInt := by rw [← e_1015, q_u_k (by decide)]
                      have t_1019 : (I_1014 o 7).toInt = (I_864 o 7).toInt := by rw [← e_1015, q_u_k (by decide)]
                      have t_1020 : (I_1014 o 8).toInt = (6 : Int32).toInt := by rw [← e_1015, q_u_at]
                      have t_1021 : (I_1014 o 9).toInt = (I_864 o 9).toInt := by rw [← e_1015, q_u_k (by decide)]
                      have t_1022 : (I_1014 o 3).toInt = (I_864 o 3).toInt := by rw [← e_1015, q_u_k (by decide)]
                      have t_1023 : (I_1014 o 4).toInt = (I_864 o 4).toInt := by rw [← e_1015, q_u_k (by decide)]
                      have t_1024 : (I_1014 o 44).toInt = (I_864 o 44).toInt := by rw [← e_1015, q_u_k (by decide)]
                      have t_1025 : (I_1014 o 45).toInt = (I_864 o 45).toInt := by rw [← e_1015, q_u_k (by decide)]
                      have t_1026 : (I_1014 o 46).toInt = (I_864 o 46).toInt := by rw [← e_1015, q_u_k (by decide)]
                      have t_1027 : (I_1014 o 47).toInt = (I_864 o 47).toInt := by rw [← e_1015, q_u_k (by decide)]
                      have t_1028 : (I_1014 o 48).toInt = (I_864 o 48).toInt := by rw [← e_1015, q_u_k (by decide)]
                      have t_1029 : (I_1014 o 49).toInt = (I_864 o 49).toInt := by rw [← e_1015, q_u_k (by decide)]
                      exact (hp _ _ hR_1016 hf_1017 (by first | omega | (intro h; omega) | exact Or.inl rfl | exact Or.inr rfl) (by first | omega | (intro h; omega) | exact Or.inl rfl | exact Or.inr rfl) (by intro _; omega) (by intro _; omega) (by first | omega | (intro h; omega) | exact Or.inl rfl | exact Or.inr rfl) (by first | omega | (intro h; omega) | exact Or.inl rfl | exact Or.inr rfl) (by first | omega | (intro h; omega) | exact Or.inl rfl | exact Or.inr rfl) (by first | omega | (intro h; omega) | exact Or.inl rfl | exact Or.inr rfl) (by first | omega | (intro h; omega) | exact Or.inl rfl | exact Or.inr rfl) (by first | omega | (intro h; omega) | exact Or.inl rfl | exact Or.inr rfl) (by first | omega | (intro h; omega) | exact Or.inl rfl | exact Or.inr rfl) (by first | omega | (intro h; omega) | exact Or.inl rfl | exact Or.inr rfl))
                  · have d_1030 := iNe c_989
                    have dc := u_986 (by omega)
                    refine fun I_1031 e_1032 => ?_
                    have hR_1033 : RI R I_1031 := hR_866.up0 ra (by decide) e_1032 (i_lo _) (i_hi _)
                    have hf_1034 : Fm (fun c => c = o) I0 I_1031 := hf_867.set (by first | rfl | omega | (dsimp only; omega)) e_1032
                    have t_1035 : (I_1031 o 6).toInt = (I_864 o 6).toInt := by rw [← e_1032, q_u_k (by decide)]
                    have t_1036 : (I_1031 o 7).toInt = (I_864 o 7).toInt := by rw [← e_1032, q_u_k (by decide)]
                    have t_1037 : (I_1031 o 8).toInt = (I_864 o 8).toInt := by rw [← e_1032, q_u_k (by decide)]
                    have t_1038 : (I_1031 o 9).toInt = (0 : Int32).toInt := by rw [← e_1032, q_u_at]
                    have t_1039 : (I_1031 o 3).toInt = (I_864 o 3).toInt := by rw [← e_1032, q_u_k (by decide)]
                    have t_1040 : (I_1031 o 4).toInt = (I_864 o 4).toInt := by rw [← e_1032, q_u_k (by decide)]
                    have t_1041 : (I_1031 o 44).toInt = (I_864 o 44).toInt := by rw [← e_1032, q_u_k (by decide)]
                    have t_1042 : (I_1031 o 45).toInt = (I_864 o 45).toInt := by rw [← e_1032, q_u_k (by decide)]
                    have t_1043 : (I_1031 o 46).toInt = (I_864 o 46).toInt := by rw [← e_1032, q_u_k (by decide)]
                    have t_1044 : (I_1031 o 47).toInt = (I_864 o 47).toInt := by rw [← e_1032, q_u_k (by decide)]
                    have t_1045 : (I_1031 o 48).toInt = (I_864 o 48).toInt := by rw [← e_1032, q_u_k (by decide)]
                    have t_1046 : (I_1031 o 49).toInt = (I_864 o 49).toInt := by rw [← e_1032, q_u_k (by decide)]
                    have g_1047 : (0 : Int) ≤ (I_1031 o 6).toInt ∧ (I_1031 o 6).toInt ≤ 1600 := hR_1033.at0 ra 6 (by decide)
                    refine fun I_1048 e_1049 => ?_
                    have hR_1050 : RI R I_1048 := hR_1033.up0 ra (by decide) e_1049 (show (0 : Int) ≤ (I_1031 o 6).toInt by omega) (show (I_1031 o 6).toInt ≤ (1601 : Int) by omega)
                    have hf_1051 : Fm (fun c => c = o) I0 I_1048 := hf_1034.set (by first | rfl | omega | (dsimp only; omega)) e_1049
                    have t_1052 : (I_1048 o 6).toInt = (I_1031 o 6).toInt := by rw [← e_1049, q_u_k (by decide)]
                    have t_1053 : (I_1048 o 7).toInt = (I_1031 o 6).toInt := by rw [← e_1049, q_u_at]
                    have t_1054 : (I_1048 o 8).toInt = (I_1031 o 8).toInt := by rw [← e_1049, q_u_k (by decide)]
                    have t_1055 : (I_1048 o 9).toInt = (I_1031 o 9).toInt := by rw [← e_1049, q_u_k (by decide)]
                    have t_1056 : (I_1048 o 3).toInt = (I_1031 o 3).toInt := by rw [← e_1049, q_u_k (by decide)]
                    have t_1057 : (I_1048 o 4).toInt = (I_1031 o 4).toInt := by rw [← e_1049, q_u_k (by decide)]
                    have t_1058 : (I_1048 o 44).toInt = (I_1031 o 44).toInt := by rw [← e_1049, q_u_k (by decide)]
                    have t_1059 : (I_1048 o 45).toInt = (I_1031 o 45).toInt := by rw [← e_1049, q_u_k (by decide)]
                    have t_1060 : (I_1048 o 46).toInt = (I_1031 o 46).toInt := by rw [← e_1049, q_u_k (by decide)]
                    have t_1061 : (I_1048 o 47).toInt = (I_1031 o 47).toInt := by rw [← e_1049, q_u_k (by decide)]
                    have t_1062 : (I_1048 o 48).toInt = (I_1031 o 48).toInt := by rw [← e_1049, q_u_k (by decide)]
                    have t_1063 : (I_1048 o 49).toInt = (I_1031 o 49).toInt := by rw [← e_1049, q_u_k (by decide)]
                    exact yModel_next_363 (I0 := I0) (L0 := L0) hok hw ra hq0 hp  _ hR_1050 hf_1051 (by first | omega | (intro h; omega) | exact Or.inl rfl | exact Or.inr rfl) (by first | omega | (intro h; omega) | exact Or.inl rfl | exact Or.inr rfl) (by first | exact sgLo sc (by omega) (by omega) | exact sgLo (a := I o 6) rfl (by omega) (by omega)) (by first | exact sgHi sc (by omega) (by omega) | exact sgHi (a := I o 6) rfl (by omega) (by omega)) (by first | omega | (intro h; omega) | exact Or.inl rfl | exact Or.inr rfl) (by first | omega | (intro h; omega) | exact Or.inl rfl | exact Or.inr rfl) (by first | omega | (intro h; omega) | exact Or.inl rfl | exact Or.inr rfl) (by first | omega | (intro h; omega) | exact Or.inl rfl | exact Or.inr rfl) (by first | omega | (intro h; omega) | exact Or.inl rfl | exact Or.inr rfl) (by first | omega | (intro h; omega) | exact Or.inl rfl | exact Or.inr rfl) (by first | omega | (intro h; omega) | exact Or.inl rfl | exact Or.inr rfl) (by first | omega | (intro h; omega) | exact Or.inl rfl | exact Or.inr rfl) (by first | omega | (intro h; omega) | exact Or.inl rfl | exact Or.inr rfl) (Nat.lt_succ_self _)
                · have d_1064 := iNe c_982
                  exact yModel_next_223 (I0 := I0) (L0 := L0) hok hw ra hq0 hp  _ hR_866 hf_867 (by first | omega | (intro h; omega) | exact Or.inl rfl | exact Or.inr rfl) (by first | omega | (intro h; omega) | exact Or.inl rfl | exact Or.inr rfl) (by first | omega | (intro h; omega) | exact Or.inl rfl | exact Or.inr rfl) (by first | omega | (intro h; omega) | exact Or.inl rfl | exact Or.inr rfl) (by first | omega | (intro h; omega) | exact Or.inl rfl | exact Or.inr rfl) (by first | omega | (intro h; omega) | exact Or.inl rfl | exact Or.inr rfl) (by first | omega | (intro h; omega) | exact Or.inl rfl | exact Or.inr rfl) (by first | omega | (intro h; omega) | exact Or.inl rfl | exact Or.inr rfl) (by first | omega | (intro h; omega) | exact Or.inl rfl | exact Or.inr rfl) (by first | omega | (intro h; omega) | exact Or.inl rfl | exact Or.inr rfl) (by first | omega | (intro h; omega) | exact Or.inl rfl | exact Or.inr rfl) (Nat.lt_succ_self _)
              · have d_1065 := iEq c_976
                have g_1066 : (0 : Int) ≤ (I_864 o 6).toInt ∧ (I_864 o 6).toInt ≤ 1600 := hR_866.at0 ra 6 (by decide)
                have a_1067 : ((I_864 o 6) + 1).toInt = (I_864 o 6).toInt + (1 : Int32).toInt := tAdd (by omega) (by omega)
                refine y_Model_pointAt hok hw ra (by first | omega | (intro h; omega) | exact Or.inl rfl | exact Or.inr rfl) hR_866 (fun r_1068 u_1069 u_1070 => ⟨r_1068, I_864, L, rfl, rfl, ?_⟩)
                refine ⟨fun c_1071 => ?_, fun c_1071 => ?_⟩
                · have d_1072 := iLe c_1071
                  unfold fModel_next_216
                  refine y_Model_isLetter hok hR_866 (fun r_1073 u_1074 u_1075 => ⟨r_1073, I_864, L, rfl, rfl, ?_⟩)
                  have b_1076 : 0 ≤ r_1073.toInt ∧ r_1073.toInt ≤ 1 := u_1074.rg
                  refine ⟨fun c_1077 => ?_, fun c_1077 => ?_⟩
                  · have d_1078 := iEq c_1077
                    refine y_Model_isDigit hok hR_866 (fun r_1079 u_1080 u_1081 u_1082 => ⟨r_1079, I_864, L, rfl, rfl, ?_⟩)
                    have b_1083 : 0 ≤ r_1079.toInt ∧ r_1079.toInt ≤ 1 := u_1080.rg
                    refine ⟨fun c_1084 => ?_, fun c_1084 => ?_⟩
                    · have d_1085 := iEq c_1084
                      refine y_Model_isSign hok hR_866 (fun r_1086 u_1087 => ⟨r_1086, I_864, L, rfl, rfl, ?_⟩)
                      have b_1088 : 0 ≤ r_1086.toInt ∧ r_1086.toInt ≤ 1 := u_1087.rg
                      refine ⟨fun c_1089 => ?_, fun c_1089 => ?_⟩
                      · have d_1090 := iEq c_1089
                        refine fun I_1091 e_1092 => ?_
                        have hR_1093 : RI R I_1091 := hR_866.up0 ra (by decide) e_1092 (i_lo _) (i_hi _)
                        have hf_1094 : Fm (fun c => c = o) I0 I_1091 := hf_867.set (by first | rfl | omega | (dsimp only; omega)) e_1092
                        have t_1095 : (I_1091 o 6).toInt = (I_864 o 6).toInt := by rw [← e_1092, q_u_k (by decide)]
                        have t_1096 : (I_1091 o 7).toInt = (I_864 o 7).toInt := by rw [← e_1092, q_u_k (by decide)]
                        have t_1097 : (I_1091 o 8).toInt = (1 : Int32).toInt := by rw [← e_1092, q_u_at]
                        have t_1098 : (I_1091 o 9).toInt = (I_864 o 9).toInt := by rw [← e_1092, q_u_k (by decide)]
                        have t_1099 : (I_1091 o 3).toInt = (I_864 o 3).toInt := by rw [← e_1092, q_u_k (by decide)]
                        have t_1100 : (I_1091 o 4).toInt = (I_864 o 4).toInt := by rw [← e_1092, q_u_k (by decide)]
                        have t_1101 : (I_1091 o 44).toInt = (I_864 o 44).toInt := by rw [← e_1092, q_u_k (by decide)]
                        have t_1102 : (I_1091 o 45).toInt = (I_864 o 45).toInt := by rw [← e_1092, q_u_k (by decide)]
                        have t_1103 : (I_1091 o 46).toInt = (I_864 o 46).toInt := by rw [← e_1092, q_u_k (by decide)]
                        have t_1104 : (I_1091 o 47).toInt = (I_864 o 47).toInt := by rw [← e_1092, q_u_k (by decide)]
                        have t_1105 : (I_1091 o 48).toInt = (I_864 o 48).toInt := by rw [← e_1092, q_u_k (by decide)]
                        have t_1106 : (I_1091 o 49).toInt = (I_864 o 49).toInt := by rw [← e_1092, q_u_k (by decide)]
                        exact (hp _ _ hR_1093 hf_1094 (by first | omega | (intro h; omega) | exact Or.inl rfl | exact Or.inr rfl) (by first | omega | (intro h; omega) | exact Or.inl rfl | exact Or.inr rfl) (by intro _; omega) (by intro _; omega) (by first | omega | (intro h; omega) | exact Or.inl rfl | exact Or.inr rfl) (by first | omega | (intro h; omega) | exact Or.inl rfl | exact Or.inr rfl) (by first | omega | (intro h; omega) | exact Or.inl rfl | exact Or.inr rfl) (by first | omega | (intro h; omega) | exact Or.inl rfl | exact Or.inr rfl) (by first | omega | (intro h; omega) | exact Or.inl rfl | exact Or.inr rfl) (by first | omega | (intro h; omega) | exact Or.inl rfl | exact Or.inr rfl) (by first | omega | (intro h; omega) | exact Or.inl rfl | exact Or.inr rfl) (by first | omega | (intro h; omega) | exact Or.inl rfl | exact Or.inr rfl))
                      · have d_1107 := iNe c_1089
                        have l_1108 : (6 : Int32).toInt = 6 := rfl
                        refine fun I_1109 e_1110 => ?_
                        have hR_1111 : RI R I_1109 := hR_866.up0 ra (by decide) e_1110 (i_lo _) (i_hi _)
                        have hf_1112 : Fm (fun c => c = o) I0 I_1109 := hf_867.set (by first | rfl | omega | (dsimp only; omega)) e_1110
                        have t_1113 : (I_1109 o 6).toInt = (I_864 o 6).toInt := by rw [← e_1110, q_u_k (by decide)]
                        have t_1114 : (I_1109 o 7).toInt = (I_864 o 7).toInt := by rw [← e_1110, q_u_k (by decide)]
                        have t_1115 : (I_1109 o 8).toInt = (6 : Int32).toInt := by rw [← e_1110, q_u_at]
                        have t_1116 : (I_1109 o 9).toInt = (I_864 o 9).toInt := by rw [← e_1110, q_u_k (by decide)]
                        have t_1117 : (I_1109 o 3).toInt = (I_864 o 3).toInt := by rw [← e_1110, q_u_k (by decide)]
                        have t_1118 : (I_1109 o 4).toInt = (I_864 o 4).toInt := by rw [← e_1110, q_u_k (by decide)]
                        have t_1119 : (I_1109 o 44).toInt = (I_864 o 44).toInt := by rw [← e_1110, q_u_k (by decide)]
                        have t_1120 : (I_1109 o 45).toInt = (I_864 o 45).toInt := by rw [← e_1110, q_u_k (by decide)]
                        have t_1121 : (I_1109 o 46).toInt = (I_864 o 46).toInt := by rw [← e_1110, q_u_k (by decide)]
                        have t_1122 : (I_1109 o 47).toInt = (I_864 o 47).toInt := by rw [← e_1110, q_u_k (by decide)]
                        have t_1123 : (I_1109 o 48).toInt = (I_864 o 48).toInt := by rw [← e_1110, q_u_k (by decide)]
                        have t_1124 : (I_1109 o 49).toInt = (I_864 o 49).toInt := by rw [← e_1110, q_u_k (by decide)]
                        exact (hp _ _ hR_1111 hf_1112 (by first | omega | (intro h; omega) | exact Or.inl rfl | exact Or.inr rfl) (by first | omega | (intro h; omega) | exact Or.inl rfl | exact Or.inr rfl) (by intro _; omega) (by intro _; omega) (by first | omega | (intro h; omega) | exact Or.inl rfl | exact Or.inr rfl) (by first | omega | (intro h; omega) | exact Or.inl rfl | exact Or.inr rfl) (by first | omega | (intro h; omega) | exact Or.inl rfl | exact Or.inr rfl) (by first | omega | (intro h; omega) | exact Or.inl rfl | exact Or.inr rfl) (by first | omega | (intro h; omega) | exact Or.inl rfl | exact Or.inr rfl) (by first | omega | (intro h; omega) | exact Or.inl rfl | exact Or.inr rfl) (by first | omega | (intro h; omega) | exact Or.inl rfl | exact Or.inr rfl) (by first | omega | (intro h; omega) | exact Or.inl rfl | exact Or.inr rfl))
                    · have d_1125 := iNe c_1084
                      have dc := u_1081 (by omega)
                      refine fun I_1126 e_1127 => ?_
                      have hR_1128 : RI R I_1126 := hR_866.up0 ra (by decide) e_1127 (i_lo _) (i_hi _)
                      have hf_1129 : Fm (fun c => c = o) I0 I_1126 := hf_867.set (by first | rfl | omega | (dsimp only; omega)) e_1127
                      have t_1130 : (I_1126 o 6).toInt = (I_864 o 6).toInt := by rw [← e_1127, q_u_k (by decide)]
                      have t_1131 : (I_1126 o 7).toInt = (I_864 o 7).toInt := by rw [← e_1127, q_u_k (by decide)]
                      have t_1132 : (I_1126 o 8).toInt = (I_864 o 8).toInt := by rw [← e_1127, q_u_k (by decide)]
                      have t_1133 : (I_1126 o 9).toInt = (0 : Int32).toInt := by rw [← e_1127, q_u_at]
                      have t_1134 : (I_1126 o 3).toInt = (I_864 o 3).toInt := by rw [← e_1127, q_u_k (by decide)]
                      have t_1135 : (I_1126 o 4).toInt = (I_864 o 4).toInt := by rw [← e_1127, q_u_k (by decide)]
                      have t_1136 : (I_1126 o 44).toInt = (I_864 o 44).toInt := by rw [← e_1127, q_u_k (by decide)]
                      have t_1137 : (I_1126 o 45).toInt = (I_864 o 45).toInt := by rw [← e_1127, q_u_k (by decide)]
                      have t_1138 : (I_1126 o 46).toInt = (I_864 o 46).toInt := by rw [← e_1127, q_u_k (by decide)]
                      have t_1139 : (I_1126 o 47).toInt = (I_864 o 47).toInt := by rw [← e_1127, q_u_k (by decide)]
                      have t_1140 : (I_1126 o 48).toInt = (I_864 o 48).toInt := by rw [← e_1127, q_u_k (by decide)]
                      have t_1141 : (I_1126 o 49).toInt = (I_864 o 49).toInt := by rw [← e_1127, q_u_k (by decide)]
                      have g_1142 : (0 : Int) ≤ (I_1126 o 6).toInt ∧ (I_1126 o 6).toInt ≤ 1600 := hR_1128.at0 ra 6 (by decide)
                      refine fun I_1143 e_1144 => ?_
                      have hR_1145 : RI R I_1143 := hR_1128.up0 ra (by decide) e_1144 (show (0 : Int) ≤ (I_1126 o 6).toInt by omega) (show (I_1126 o 6).toInt ≤ (1601 : Int) by omega)
                      have hf_1146 : Fm (fun c => c = o) I0 I_1143 := hf_1129.set (by first | rfl | omega | (dsimp only; omega)) e_1144
                      have t_1147 : (I_1143 o 6).toInt = (I_1126 o 6).toInt := by rw [← e_1144, q_u_k (by decide)]
                      have t_1148 : (I_1143 o 7).toInt = (I_1126 o 6).toInt := by rw [← e_1144, q_u_at]
                      have t_1149 : (I_1143 o 8).toInt = (I_1126 o 8).toInt := by rw [← e_1144, q_u_k (by decide)]
                      have t_1150 : (I_1143 o 9).toInt = (I_1126 o 9).toInt := by rw [← e_1144, q_u_k (by decide)]
                      have t_1151 : (I_1143 o 3).toInt = (I_1126 o 3).toInt := by rw [← e_1144, q_u_k (by decide)]
                      have t_1152 : (I_1143 o 4).toInt = (I_1126 o 4).toInt := by rw [← e_1144, q_u_k (by decide)]
                      have t_1153 : (I_1143 o 44).toInt = (I_1126 o 44).toInt := by rw [← e_1144, q_u_k (by decide)]
                      have t_1154 : (I_1143 o 45).toInt = (I_1126 o 45).toInt := by rw [← e_1144, q_u_k (by decide)]
                      have t_1155 : (I_1143 o 46).toInt = (I_1126 o 46).toInt := by rw [← e_1144, q_u_k (by decide)]
                      have t_1156 : (I_1143 o 47).toInt = (I_1126 o 47).toInt := by rw [← e_1144, q_u_k (by decide)]
                      have t_1157 : (I_1143 o 48).toInt = (I_1126 o 48).toInt := by rw [← e_1144, q_u_k (by decide)]
                      have t_1158 : (I_1143 o 49).toInt = (I_1126 o 49).toInt := by rw [← e_1144, q_u_k (by decide)]
                      exact yModel_next_363 (I0 := I0) (L0 := L0) hok hw ra hq0 hp  _ hR_1145 hf_1146 (by first | omega | (intro h; omega) | exact Or.inl rfl | exact Or.inr rfl) (by first | omega | (intro h; omega) | exact Or.inl rfl | exact Or.inr rfl) (by first | exact sgLo sc (by omega) (by omega) | exact sgLo (a := I o 6) rfl (by omega) (by omega)) (by first | exact sgHi sc (by omega) (by omega) | exact sgHi (a := I o 6) rfl (by omega) (by omega)) (by first | omega | (intro h; omega) | exact Or.inl rfl | exact Or.inr rfl) (by first | omega | (intro h; omega) | exact Or.inl rfl | exact Or.inr rfl) (by first | omega | (intro h; omega) | exact Or.inl rfl | exact Or.inr rfl) (by first | omega | (intro h; omega) | exact Or.inl rfl | exact Or.inr rfl) (by first | omega | (intro h; omega) | exact Or.inl rfl | exact Or.inr rfl) (by first | omega | (intro h; omega) | exact Or.inl rfl | exact Or.inr rfl) (by first | omega | (intro h; omega) | exact Or.inl rfl | exact Or.inr rfl) (by first | omega | (intro h; omega) | exact Or.inl rfl | exact Or.inr rfl) (by first | omega | (intro h; omega) | exact Or.inl rfl | exact Or.inr rfl) (Nat.lt_succ_self _)
                  · have d_1159 := iNe c_1077
                    exact yModel_next_223 (I0 := I0) (L0 := L0) hok hw ra hq0 hp  _ hR_866 hf_867 (by first | omega | (intro h; omega) | exact Or.inl rfl | exact Or.inr rfl) (by first | omega | (intro h; omega) | exact Or.inl rfl | exact Or.inr rfl) (by first | omega | (intro h; omega) | exact Or.inl rfl | exact Or.inr rfl) (by first | omega | (intro h; omega) | exact Or.inl rfl | exact Or.inr rfl) (by first | omega | (intro h; omega) | exact Or.inl rfl | exact Or.inr rfl) (by first | omega | (intro h; omega) | exact Or.inl rfl | exact Or.inr rfl) (by first | omega | (intro h; omega) | exact Or.inl rfl | exact Or.inr rfl) (by first | omega | (intro h; omega) | exact Or.inl rfl | exact Or.inr rfl) (by first | omega | (intro h; omega) | exact Or.inl rfl | exact Or.inr rfl) (by first | omega | (intro h; omega) | exact Or.inl rfl | exact Or.inr rfl) (by first | omega | (intro h; omega) | exact Or.inl rfl | exact Or.inr rfl) (Nat.lt_succ_self _)
                · have d_1160 := iNle c_1071
                  have pr := u_1070
                  rw [hf_867 (o + 2) (by first | omega | (dsimp only; omega)), show I_864 o 3 = I0 o 3 from Int32.toInt_inj.mp (by omega), show I_864 o 6 = a1 from Int32.toInt_inj.mp (by omega)] at pr
                  have dk := pr.dig (by omega) (by omega)
                  have kl := sg_lt dk.1
                  have o1 : (1 : Int32).toInt = 1 := rfl
                  have ka : (a1 + 1).toInt = a1.toInt + (1 : Int32).toInt := tAdd (by omega) (by omega)
                  have g_1161 : (0 : Int) ≤ (I_864 o 6).toInt ∧ (I_864 o 6).toInt ≤ 1600 := hR_866.at0 ra 6 (by decide)
                  have a_1162 : ((I_864 o 6) + 1).toInt = (I_864 o 6).toInt + (1 : Int32).toInt := tAdd (by omega) (by omega)
                  refine y_Model_pointAt hok hw ra (by first | omega | (intro h; omega) | exact Or.inl rfl | exact Or.inr rfl) hR_866 (fun r_1163 u_1164 u_1165 => ⟨r_1163, I_864, L, rfl, rfl, ?_⟩)
                  have pr2 := u_1165
                  rw [hf_867 (o + 2) (by first | omega | (dsimp only; omega)), show I_864 o 3 = I0 o 3 from Int32.toInt_inj.mp (by omega), show I_864 o 6 = a1 from Int32.toInt_inj.mp (by omega)] at pr2
                  have g_1166 : (0 : Int) ≤ (I_864 o 6).toInt ∧ (I_864 o 6).toInt ≤ 1600 := hR_866.at0 ra 6 (by decide)
                  have a_1167 : ((I_864 o 6) + 1).toInt = (I_864 o 6).toInt + (1 : Int32).toInt := tAdd (by omega) (by omega)
                  refine y_Model_sign hok hw ra (by first | omega | (intro h; omega) | exact Or.inl rfl | exact Or.inr rfl) hR_866 (fun r_1168 u_1169 u_1170 => ⟨r_1168, I_864, L, rfl, rfl, ?_⟩)
                  have s1 := u_1170
                  rw [hf_867 (o + 2) (by first | omega | (dsimp only; omega)), show I_864 o 3 = I0 o 3 from Int32.toInt_inj.mp (by omega), show I_864 o 6 = a1 from Int32.toInt_inj.mp (by omega)] at s1
                  have s1 := iEq s1
                  have e48 : (48 : Int32).toInt = 48 := rfl
                  have sb : (r_1168 - 48).toInt = (r_1168).toInt - (48 : Int32).toInt := tSub (by omega) (by omega)
                  refine fun I_1171 e_1172 => ?_
                  have hR_1173 : RI R I_1171 := hR_866.up0 ra (by decide) e_1172 (i_lo _) (i_hi _)
                  have hf_1174 : Fm (fun c => c = o) I0 I_1171 := hf_867.set (by first | rfl | omega | (dsimp only; omega)) e_1172
                  have t_1175 : (I_1171 o 6).toInt = (I_864 o 6).toInt := by rw [← e_1172, q_u_k (by decide)]
                  have t_1176 : (I_1171 o 7).toInt = (I_864 o 7).toInt := by rw [← e_1172, q_u_k (by decide)]
                  have t_1177 : (I_1171 o 8).toInt = (I_864 o 8).toInt := by rw [← e_1172, q_u_k (by decide)]
                  have t_1178 : (I_1171 o 9).toInt = (r_1168 - 48).toInt := by rw [← e_1172, q_u_at]
                  have t_1179 : (I_1171 o 3).toInt = (I_864 o 3).toInt := by rw [← e_1172, q_u_k (by decide)]
                  have t_1180 : (I_1171 o 4).toInt = (I_864 o 4).toInt := by rw [← e_1172, q_u_k (by decide)]
                  have t_1181 : (I_1171 o 44).toInt = (I_864 o 44).toInt := by rw [← e_1172, q_u_k (by decide)]
                  have t_1182 : (I_1171 o 45).toInt = (I_864 o 45).toInt := by rw [← e_1172, q_u_k (by decide)]
                  have t_1183 : (I_1171 o 46).toInt = (I_864 o 46).toInt := by rw [← e_1172, q_u_k (by decide)]
                  have t_1184 : (I_1171 o 47).toInt = (I_864 o 47).toInt := by rw [← e_1172, q_u_k (by decide)]
                  have t_1185 : (I_1171 o 48).toInt = (I_864 o 48).toInt := by rw [← e_1172, q_u_k (by decide)]
                  have t_1186 : (I_1171 o 49).toInt = (I_864 o 49).toInt := by rw [← e_1172, q_u_k (by decide)]
                  have l_1187 : (2 : Int32).toInt = 2 := rfl
                  refine ⟨fun c_1188 => ?_, fun c_1188 => ?_⟩
                  · have d_1189 := iNe c_1188
                    unfold fModel_next_196
                    have g_1190 : (0 : Int) ≤ (I_1171 o 6).toInt ∧ (I_1171 o 6).toInt ≤ 1600 := hR_1173.at0 ra 6 (by decide)
                    have a_1191 : ((I_1171 o 6) + 1).toInt = (I_1171 o 6).toInt + (1 : Int32).toInt := tAdd (by omega) (by omega)
                    have a_1192 : (((I_1171 o 6) + 1) + r_1163).toInt = ((I_1171 o 6) + 1).toInt + r_1163.toInt := tAdd (by omega) (by omega)
                    refine fun I_1193 e_1194 => ?_
                    have hR_1195 : RI R I_1193 := hR_1173.up0 ra (by decide) e_1194 (show (0 : Int) ≤ (((I_1171 o 6) + 1) + r_1163).toInt by omega) (show (((I_1171 o 6) + 1) + r_1163).toInt ≤ (1601 : Int) by omega)
                    have hf_1196 : Fm (fun c => c = o) I0 I_1193 := hf_1174.set (by first | rfl | omega | (dsimp only; omega)) e_1194
                    have t_1197 : (I_1193 o 6).toInt = (I_1171 o 6).toInt := by rw [← e_1194, q_u_k (by decide)]
                    have t_1198 : (I_1193 o 7).toInt = (((I_1171 o 6) + 1) + r_1163).toInt := by rw [← e_1194, q_u_at]
                    have t_1199 : (I_1193 o 8).toInt = (I_1171 o 8).toInt := by rw [← e_1194, q_u_k (by decide)]
                    have t_1200 : (I_1193 o 9).toInt = (I_1171 o 9).toInt := by rw [← e_1194, q_u_k (by decide)]
                    have t_1201 : (I_1193 o 3).toInt = (I_1171 o 3).toInt := by rw [← e_1194, q_u_k (by decide)]
                    have t_1202 : (I_1193 o 4).toInt = (I_1171 o 4).toInt := by rw [← e_1194, q_u_k (by decide)]
                    have t_1203 : (I_1193 o 44).toInt = (I_1171 o 44).toInt := by rw [← e_1194, q_u_k (by decide)]
                    have t_1204 : (I_1193 o 45).toInt = (I_1171 o 45).toInt := by rw [← e_1194, q_u_k (by decide)]
                    have t_1205 : (I_1193 o 46).toInt = (I_1171 o 46).toInt := by rw [← e_1194, q_u_k (by decide)]
                    have t_1206 : (I_1193 o 47).toInt = (I_1171 o 47).toInt := by rw [← e_1194, q_u_k (by decide)]
                    have t_1207 : (I_1193 o 48).toInt = (I_1171 o 48).toInt := by rw [← e_1194, q_u_k (by decide)]
                    have t_1208 : (I_1193 o 49).toInt = (I_1171 o 49).toInt := by rw [← e_1194, q_u_k (by decide)]
                    have l_1209 : (5 : Int32).toInt = 5 := rfl
                    refine fun I_1210 e_1211 => ?_
                    have hR_1212 : RI R I_1210 := hR_1195.up0 ra (by decide) e_1211 (i_lo _) (i_hi _)
                    have hf_1213 : Fm (fun c => c = o) I0 I_1210 := hf_1196.set (by first | rfl | omega | (dsimp only; omega)) e_1211
                    have t_1214 : (I_1210 o 6).toInt = (I_1193 o 6).toInt := by rw [← e_1211, q_u_k (by decide)]
                    have t_1215 : (I_1210 o 7).toInt = (I_1193 o 7).toInt := by rw [← e_1211, q_u_k (by decide)]
                    have t_1216 : (I_1210 o 8).toInt = (5 : Int32).toInt := by rw [← e_1211, q_u_at]
                    have t_1217 : (I_1210 o 9).toInt = (I_1193 o 9).toInt := by rw [← e_1211, q_u_k (by decide)]
                    have t_1218 : (I_1210 o 3).toInt = (I_1193 o 3).toInt := by rw [← e_1211, q_u_k (by decide)]
                    have t_1219 : (I_1210 o 4).toInt = (I_1193 o 4).toInt := by rw [← e_1211, q_u_k (by decide)]
                    have t_1220 : (I_1210 o 44).toInt = (I_1193 o 44).toInt := by rw [← e_1211, q_u_k (by decide)]
                    have t_1221 : (I_1210 o 45).toInt = (I_1193 o 45).toInt := by rw [← e_1211, q_u_k (by decide)]
                    have t_1222 : (I_1210 o 46).toInt = (I_1193 o 46).toInt := by rw [← e_1211, q_u_k (by decide)]
                    have t_1223 : (I_1210 o 47).toInt = (I_1193 o 47).toInt := by rw [← e_1211, q_u_k (by decide)]
                    have t_1224 : (I_1210 o 48).toInt = (I_1193 o 48).toInt := by rw [← e_1211, q_u_k (by decide)]
                    have t_1225 : (I_1210 o 49).toInt = (I_1193 o 49).toInt := by rw [← e_1211, q_u_k (by decide)]
                    exact (hp _ _ hR_1212 hf_1213 (by first | omega | (intro h; omega) | exact Or.inl rfl | exact Or.inr rfl) (by first | omega | (intro h; omega) | exact Or.inl rfl | exact Or.inr rfl) (by intro _; omega) (by intro _; omega) (by first | omega | (intro h; omega) | exact Or.inl rfl | exact Or.inr rfl) (by first | omega | (intro h; omega) | exact Or.inl rfl | exact Or.inr rfl) (by first | omega | (intro h; omega) | exact Or.inl rfl | exact Or.inr rfl) (by first | omega | (intro h; omega) | exact Or.inl rfl | exact Or.inr rfl) (by first | omega | (intro h; omega) | exact Or.inl rfl | exact Or.inr rfl) (by first | omega | (intro h; omega) | exact Or.inl rfl | exact Or.inr rfl) (by first | omega | (intro h; omega) | exact Or.inl rfl | exact Or.inr rfl) (by first | omega | (intro h; omega) | exact Or.inl rfl | exact Or.inr rfl))
                  · have d_1226 := iEq c_1188
                    have tw := pr2.two (by omega)
                    have kl2 := sg_lt tw.2.2.1
                    have ka2 : (a1 + 1 + 1).toInt = (a1 + 1).toInt + (1 : Int32).toInt := tAdd (by omega) (by omega)
                    have g_1227 : (0 : Int) ≤ (I_1171 o 6).toInt ∧ (I_1171 o 6).toInt ≤ 1600 := hR_1173.at0 ra 6 (by decide)
                    have a_1228 : ((I_1171 o 6) + 2).toInt = (I_1171 o 6).toInt + (2 : Int32).toInt := tAdd (by omega) (by omega)
                    refine y_Model_sign hok hw ra (by first | omega | (intro h; omega) | exact Or.inl rfl | exact Or.inr rfl) hR_1173 (fun r_1229 u_1230 u_1231 => ⟨r_1229, I_1171, L, rfl, rfl, ?_⟩)
                    have s2 := u_1231
                    rw [hf_1174 (o + 2) (by first | omega | (dsimp only; omega)), show I_1171 o 3 = I0 o 3 from Int32.toInt_inj.mp (by omega), show I_1171 o 6 = a1 from Int32.toInt_inj.mp (by omega), show a1 + 2 = a1 + 1 + 1 by rw [Int32.add_assoc]; rfl] at s2
                    have s2 := iEq s2
                    have nn := mul10 (v := I_1171 o 9) (c := r_1229) (by omega) (by omega) (by omega) (by omega)
                    refine fun I_1232 e_1233 => ?_
                    have hR_1234 : RI R I_1232 := hR_1173.up0 ra (by decide) e_1233 (i_lo _) (i_hi _)
                    have hf_1235 : Fm (fun c => c = o) I0 I_1232 := hf_1174.set (by first | rfl | omega | (dsimp only; omega)) e_1233
                    have t_1236 : (I_1232 o 6).toInt = (I_1171 o 6).toInt := by rw [← e_1233, q_u_k (by decide)]
                    have t_1237 : (I_1232 o 7).toInt = (I_1171 o 7).toInt := by rw [← e_1233, q_u_k (by decide)]
                    have t_1238 : (I_1232 o 8).toInt = (I_1171 o 8).toInt := by rw [← e_1233, q_u_k (by decide)]
                    have t_1239 : (I_1232 o 9).toInt = (((10 * (I_1171 o 9)) + r_1229) - 48).toInt := by rw [← e_1233, q_u_at]
                    have t_1240 : (I_1232 o 3).toInt = (I_1171 o 3).toInt := by rw [← e_1233, q_u_k (by decide)]
                    have t_1241 : (I_1232 o 4).toInt = (I_1171 o 4).toInt := by rw [← e_1233, q_u_k (by decide)]
                    have t_1242 : (I_1232 o 44).toInt = (I_1171 o 44).toInt := by rw [← e_1233, q_u_k (by decide)]
                    have t_1243 : (I_1232 o 45).toInt = (I_1171 o 45).toInt := by rw [← e_1233, q_u_k (by decide)]
                    have t_1244 : (I_1232 o 46).toInt = (I_1171 o 46).toInt := by rw [← e_1233, q_u_k (by decide)]
                    have t_1245 : (I_1232 o 47).toInt = (I_1171 o 47).toInt := by rw [← e_1233, q_u_k (by decide)]
                    have t_1246 : (I_1232 o 48).toInt = (I_1171 o 48).toInt := by rw [← e_1233, q_u_k (by decide)]
                    have t_1247 : (I_1232 o 49).toInt = (I_1171 o 49).toInt := by rw [← e_1233, q_u_k (by decide)]
                    unfold fModel_next_196
                    have g_1248 : (0 : Int) ≤ (I_1232 o 6).toInt ∧ (I_1232 o 6).toInt ≤ 1600 := hR_1234.at0 ra 6 (by decide)
                    have a_1249 : ((I_1232 o 6) + 1).toInt = (I_1232 o 6).toInt + (1 : Int32).toInt := tAdd (by omega) (by omega)
                    have a_1250 : (((I_1232 o 6) + 1) + r_1163).toInt = ((I_1232 o 6) + 1).toInt + r_1163.toInt := tAdd (by omega) (by omega)
                    refine fun I_1251 e_1252 => ?_
                    have hR_1253 : RI R I_1251 := hR_1234.up0 ra (by decide) e_1252 (show (0 : Int) ≤ (((I_1232 o 6) + 1) + r_1163).toInt by omega) (show (((I_1232 o 6) + 1) + r_1163).toInt ≤ (1601 : Int) by omega)
                    have hf_1254 : Fm (fun c => c = o) I0 I_1251 := hf_1235.set (by first | rfl | omega | (dsimp only; omega)) e_1252
                    have t_1255 : (I_1251 o 6).toInt = (I_1232 o 6).toInt := by rw [← e_1252, q_u_k (by decide)]
                    have t_1256 : (I_1251 o 7).toInt = (((I_1232 o 6) + 1) + r_1163).toInt := by rw [← e_1252, q_u_at]
                    have t_1257 : (I_1251 o 8).toInt = (I_1232 o 8).toInt := by rw [← e_1252, q_u_k (by decide)]
                    have t_1258 : (I_1251 o 9).toInt = (I_1232 o 9).toInt := by rw [← e_1252, q_u_k (by decide)]
                    have t_1259 : (I_1251 o 3).toInt = (I_1232 o 3).toInt := by rw [← e_1252, q_u_k (by decide)]
                    have t_1260 : (I_1251 o 4).toInt = (I_1232 o 4).toInt := by rw [← e_1252, q_u_k (by decide)]
                    have t_1261 : (I_1251 o 44).toInt = (I_1232 o 44).toInt := by rw [← e_1252, q_u_k (by decide)]
                    have t_1262 : (I_1251 o 45).toInt = (I_1232 o 45).toInt := by rw [← e_1252, q_u_k (by decide)]
                    have t_1263 : (I_1251 o 46).toInt = (I_1232 o 46).toInt := by rw [← e_1252, q_u_k (by decide)]
                    have t_1264 : (I_1251 o 47).toInt = (I_1232 o 47).toInt := by rw [← e_1252, q_u_k (by decide)]
                    have t_1265 : (I_1251 o 48).toInt = (I_1232 o 48).toInt := by rw [← e_1252, q_u_k (by decide)]
                    have t_1266 : (I_1251 o 49).toInt = (I_1232 o 49).toInt := by rw [← e_1252, q_u_k (by decide)]
                    have l_1267 : (5 : Int32).toInt = 5 := rfl
                    refine fun I_1268 e_1269 => ?_
                    have hR_1270 : RI R I_1268 := hR_1253.up0 ra (by decide) e_1269 (i_lo _) (i_hi _)
                    have hf_1271 : Fm (fun c => c = o) I0 I_1268 := hf_1254.set (by first | rfl | omega | (dsimp only; omega)) e_1269
                    have t_1272 : (I_1268 o 6).toInt = (I_1251 o 6).toInt := by rw [← e_1269, q_u_k (by decide)]
                    have t_1273 : (I_1268 o 7).toInt = (I_1251 o 7).toInt := by rw [← e_1269, q_u_k (by decide)]
                    have t_1274 : (I_1268 o 8).toInt = (5 : Int32).toInt := by rw [← e_1269, q_u_at]
                    have t_1275 : (I_1268 o 9).toInt = (I_1251 o 9).toInt := by rw [← e_1269, q_u_k (by decide)]
                    have t_1276 : (I_1268 o 3).toInt = (I_1251 o 3).toInt := by rw [← e_1269, q_u_k (by decide)]
                    have t_1277 : (I_1268 o 4).toInt = (I_1251 o 4).toInt := by rw [← e_1269, q_u_k (by decide)]
                    have t_1278 : (I_1268 o 44).toInt = (I_1251 o 44).toInt := by rw [← e_1269, q_u_k (by decide)]
                    have t_1279 : (I_1268 o 45).toInt = (I_1251 o 45).toInt := by rw [← e_1269, q_u_k (by decide)]
                    have t_1280 : (I_1268 o 46).toInt = (I_1251 o 46).toInt := by rw [← e_1269, q_u_k (by decide)]
                    have t_1281 : (I_1268 o 47).toInt = (I_1251 o 47).toInt := by rw [← e_1269, q_u_k (by decide)]
                    have t_1282 : (I_1268 o 48).toInt = (I_1251 o 48).toInt := by rw [← e_1269, q_u_k (by decide)]
                    have t_1283 : (I_1268 o 49).toInt = (I_1251 o 49).toInt := by rw [← e_1269, q_u_k (by decide)]
                    exact (hp _ _ hR_1270 hf_1271 (by first | omega | (intro h; omega) | exact Or.inl rfl | exact Or.inr rfl) (by first | omega | (intro h; omega) | exact Or.inl rfl | exact Or.inr rfl) (by intro _; omega) (by intro _; omega) (by first | omega | (intro h; omega) | exact Or.inl rfl | exact Or.inr rfl) (by first | omega | (intro h; omega) | exact Or.inl rfl | exact Or.inr rfl) (by first | omega | (intro h; omega) | exact Or.inl rfl | exact Or.inr rfl) (by first | omega | (intro h; omega) | exact Or.inl rfl | exact Or.inr rfl) (by first | omega | (intro h; omega) | exact Or.inl rfl | exact Or.inr rfl) (by first | omega | (intro h; omega) | exact Or.inl rfl | exact Or.inr rfl) (by first | omega | (intro h; omega) | exact Or.inl rfl | exact Or.inr rfl) (by first | omega | (intro h; omega) | exact Or.inl rfl | exact Or.inr rfl))
          · have d_1284 := iNlt c_882
            have l_1285 : (0 : Int32).toInt = 0 := rfl
            refine fun I_1286 e_1287 => ?_
            have hR_1288 : RI R I_1286 := hR_866.up0 ra (by decide) e_1287 (i_lo _) (i_hi _)
            have hf_1289 : Fm (fun c => c = o) I0 I_1286 := hf_867.set (by first | rfl | omega | (dsimp only; omega)) e_1287
            have t_1290 : (I_1286 o 6).toInt = (I_864 o 6).toInt := by rw [← e_1287, q_u_k (by decide)]
            have t_1291 : (I_1286 o 7).toInt = (I_864 o 7).toInt := by rw [← e_1287, q_u_k (by decide)]
            have t_1292 : (I_1286 o 8).toInt = (0 : Int32).toInt := by rw [← e_1287, q_u_at]
            have t_1293 : (I_1286 o 9).toInt = (I_864 o 9).toInt := by rw [← e_1287, q_u_k (by decide)]
            have t_1294 : (I_1286 o 3).toInt = (I_864 o 3).toInt := by rw [← e_1287, q_u_k (by decide)]
            have t_1295 : (I_1286 o 4).toInt = (I_864 o 4).toInt := by rw [← e_1287, q_u_k (by decide)]
            have t_1296 : (I_1286 o 44).toInt = (I_864 o 44).toInt := by rw [← e_1287, q_u_k (by decide)]
            have t_1297 : (I_1286 o 45).toInt = (I_864 o 45).toInt := by rw [← e_1287, q_u_k (by decide)]
            have t_1298 : (I_1286 o 46).toInt = (I_864 o 46).toInt := by rw [← e_1287, q_u_k (by decide)]
            have t_1299 : (I_1286 o 47).toInt = (I_864 o 47).toInt := by rw [← e_1287, q_u_k (by decide)]
            have t_1300 : (I_1286 o 48).toInt = (I_864 o 48).toInt := by rw [← e_1287, q_u_k (by decide)]
            have t_1301 : (I_1286 o 49).toInt = (I_864 o 49).toInt := by rw [← e_1287, q_u_k (by decide)]
            have g_1302 : (0 : Int) ≤ (I_1286 o 3).toInt ∧ (I_1286 o 3).toInt ≤ 1600 := hR_1288.at0 ra 3 (by decide)
            refine fun I_1303 e_1304 => ?_
            have hR_1305 : RI R I_1303 := hR_1288.up0 ra (by decide) e_1304 (show (0 : Int) ≤ (I_1286 o 3).toInt by omega) (show (I_1286 o 3).toInt ≤ (1600 : Int) by omega)
            have hf_1306 : Fm (fun c => c = o) I0 I_1303 := hf_1289.set (by first | rfl | omega | (dsimp only; omega)) e_1304
            have t_1307 : (I_1303 o 6).toInt = (I_1286 o 3).toInt := by rw [← e_1304, q_u_at]
            have t_1308 : (I_1303 o 7).toInt = (I_1286 o 7).toInt := by rw [← e_1304, q_u_k (by decide)]
            have t_1309 : (I_1303 o 8).toInt = (I_1286 o 8).toInt := by rw [← e_1304, q_u_k (by decide)]
            have t_1310 : (I_1303 o 9).toInt = (I_1286 o 9).toInt := by rw [← e_1304, q_u_k (by decide)]
            have t_1311 : (I_1303 o 3).toInt = (I_1286 o 3).toInt := by rw [← e_1304, q_u_k (by decide)]
            have t_1312 : (I_1303 o 4).toInt = (I_1286 o 4).toInt := by rw [← e_1304, q_u_k (by decide)]
            have t_1313 : (I_1303 o 44).toInt = (I_1286 o 44).toInt := by rw [← e_1304, q_u_k (by decide)]
            have t_1314 : (I_1303 o 45).toInt = (I_1286 o 45).toInt := by rw [← e_1304, q_u_k (by decide)]
            have t_1315 : (I_1303 o 46).toInt = (I_1286 o 46).toInt := by rw [← e_1304, q_u_k (by decide)]
            have t_1316 : (I_1303 o 47).toInt = (I_1286 o 47).toInt := by rw [← e_1304, q_u_k (by decide)]
            have t_1317 : (I_1303 o 48).toInt = (I_1286 o 48).toInt := by rw [← e_1304, q_u_k (by decide)]
            have t_1318 : (I_1303 o 49).toInt = (I_1286 o 49).toInt := by rw [← e_1304, q_u_k (by decide)]
            have g_1319 : (0 : Int) ≤ (I_1303 o 3).toInt ∧ (I_1303 o 3).toInt ≤ 1600 := hR_1305.at0 ra 3 (by decide)
            refine fun I_1320 e_1321 => ?_
            have hR_1322 : RI R I_1320 := hR_1305.up0 ra (by decide) e_1321 (show (0 : Int) ≤ (I_1303 o 3).toInt by omega) (show (I_1303 o 3).toInt ≤ (1601 : Int) by omega)
            have hf_1323 : Fm (fun c => c = o) I0 I_1320 := hf_1306.set (by first | rfl | omega | (dsimp only; omega)) e_1321
            have t_1324 : (I_1320 o 6).toInt = (I_1303 o 6).toInt := by rw [← e_1321, q_u_k (by decide)]
            have t_1325 : (I_1320 o 7).toInt = (I_1303 o 3).toInt := by rw [← e_1321, q_u_at]
            have t_1326 : (I_1320 o 8).toInt = (I_1303 o 8).toInt := by rw [← e_1321, q_u_k (by decide)]
            have t_1327 : (I_1320 o 9).toInt = (I_1303 o 9).toInt := by rw [← e_1321, q_u_k (by decide)]
            have t_1328 : (I_1320 o 3).toInt = (I_1303 o 3).toInt := by rw [← e_1321, q_u_k (by decide)]
            have t_1329 : (I_1320 o 4).toInt = (I_1303 o 4).toInt := by rw [← e_1321, q_u_k (by decide)]
            have t_1330 : (I_1320 o 44).toInt = (I_1303 o 44).toInt := by rw [← e_1321, q_u_k (by decide)]
            have t_1331 : (I_1320 o 45).toInt = (I_1303 o 45).toInt := by rw [← e_1321, q_u_k (by decide)]
            have t_1332 : (I_1320 o 46).toInt = (I_1303 o 46).toInt := by rw [← e_1321, q_u_k (by decide)]
            have t_1333 : (I_1320 o 47).toInt = (I_1303 o 47).toInt := by rw [← e_1321, q_u_k (by decide)]
            have t_1334 : (I_1320 o 48).toInt = (I_1303 o 48).toInt := by rw [← e_1321, q_u_k (by decide)]
            have t_1335 : (I_1320 o 49).toInt = (I_1303 o 49).toInt := by rw [← e_1321, q_u_k (by decide)]
            exact (hp _ _ hR_1322 hf_1323 (by first | omega | (intro h; omega) | exact Or.inl rfl | exact Or.inr rfl) (by first | omega | (intro h; omega) | exact Or.inl rfl | exact Or.inr rfl) (by intro _; omega) (by intro _; omega) (by first | omega | (intro h; omega) | exact Or.inl rfl | exact Or.inr rfl) (by first | omega | (intro h; omega) | exact Or.inl rfl | exact Or.inr rfl) (by first | omega | (intro h; omega) | exact Or.inl rfl | exact Or.inr rfl) (by first | omega | (intro h; omega) | exact Or.inl rfl | exact Or.inr rfl) (by first | omega | (intro h; omega) | exact Or.inl rfl | exact Or.inr rfl) (by first | omega | (intro h; omega) | exact Or.inl rfl | exact Or.inr rfl) (by first | omega | (intro h; omega) | exact Or.inl rfl | exact Or.inr rfl) (by first | omega | (intro h; omega) | exact Or.inl rfl | exact Or.inr rfl))
        · have d_1336 := iEq c_855
          unfold fModel_next_45
          have g_1337 : (0 : Int) ≤ (I o 6).toInt ∧ (I o 6).toInt ≤ 1600 := hR.at0 ra 6 (by decide)
          have l_1338 : (1 : Int32).toInt = 1 := rfl
          have a_1339 : ((I o 6) + 1).toInt = (I o 6).toInt + (1 : Int32).toInt := tAdd (by omega) (by omega)
          refine fun I_1340 e_1341 => ?_
          have hR_1342 : RI R I_1340 := hR.up0 ra (by decide) e_1341 (show (0 : Int) ≤ ((I o 6) + 1).toInt by omega) (show ((I o 6) + 1).toInt ≤ (1600 : Int) by omega)
          have hf_1343 : Fm (fun c => c = o) I0 I_1340 := hf.set (by first | rfl | omega | (dsimp only; omega)) e_1341
          have t_1344 : (I_1340 o 6).toInt = ((I o 6) + 1).toInt := by rw [← e_1341, q_u_at]
          have t_1345 : (I_1340 o 7).toInt = (I o 7).toInt := by rw [← e_1341, q_u_k (by decide)]
          have t_1346 : (I_1340 o 8).toInt = (I o 8).toInt := by rw [← e_1341, q_u_k (by decide)]
          have t_1347 : (I_1340 o 9).toInt = (I o 9).toInt := by rw [← e_1341, q_u_k (by decide)]
          have t_1348 : (I_1340 o 3).toInt = (I o 3).toInt := by rw [← e_1341, q_u_k (by decide)]
          have t_1349 : (I_1340 o 4).toInt = (I o 4).toInt := by rw [← e_1341, q_u_k (by decide)]
          have t_1350 : (I_1340 o 44).toInt = (I o 44).toInt := by rw [← e_1341, q_u_k (by decide)]
          have t_1351 : (I_1340 o 45).toInt = (I o 45).toInt := by rw [← e_1341, q_u_k (by decide)]
          have t_1352 : (I_1340 o 46).toInt = (I o 46).toInt := by rw [← e_1341, q_u_k (by decide)]
          have t_1353 : (I_1340 o 47).toInt = (I o 47).toInt := by rw [← e_1341, q_u_k (by decide)]
          have t_1354 : (I_1340 o 48).toInt = (I o 48).toInt := by rw [← e_1341, q_u_k (by decide)]
          have t_1355 : (I_1340 o 49).toInt = (I o 49).toInt := by rw [← e_1341, q_u_k (by decide)]
          exact ih hR_1342 hf_1343 (by first | omega | (intro h; omega) | exact Or.inl rfl | exact Or.inr rfl) (by first | omega | (intro h; omega) | exact Or.inl rfl | exact Or.inr rfl) (by first | omega | (intro h; omega) | exact Or.inl rfl | exact Or.inr rfl) (by first | omega | (intro h; omega) | exact Or.inl rfl | exact Or.inr rfl) (by first | omega | (intro h; omega) | exact Or.inl rfl | exact Or.inr rfl) (by first | omega | (intro h; omega) | exact Or.inl rfl | exact Or.inr rfl) (by first | omega | (intro h; omega) | exact Or.inl rfl | exact Or.inr rfl) (by first | omega | (intro h; omega) | exact Or.inl rfl | exact Or.inr rfl) (by first | omega | (intro h; omega) | exact Or.inl rfl | exact Or.inr rfl) (by first | omega | (intro h; omega) | exact Or.inl rfl | exact Or.inr rfl) (by first | omega | (intro h; omega) | exact Or.inl rfl | exact Or.inr rfl) (by first | omega | (intro h; omega) | exact Or.inl rfl | exact Or.inr rfl) (by omega)
set_option maxHeartbeats 4000000 in
set_option maxRecDepth 20000 in
theorem y_Model_next {D : va_G} {cA : FieldType → ClassId} {b : Nat} {E : State → Prop} {R : qRg} {o n : Nat} {sh : Nat → qC} {Rf : Nat → Nat → Option Nat} {I0 : Nat → Nat → Int32} {L0 : Nat → Nat → Int64} {post : Option Value → qS → Prop} (hok : q_ok (qGG D cA b E)) (hw : WfModel (qGG D cA b E) n sh Rf o) (ra : RAModel R o) (hq0 : (I0 o 7).toInt ≤ (I0 o 3).toInt) (hR : RI R I0) (hp : ∀ (I' : Nat → Nat → Int32) (L' : Nat → Nat → Int64), RI R I' → Fm (fun c => c = o) I0 I' → ((I' o 7).toInt ≤ (I' o 3).toInt) → ((I0 o 7).toInt ≤ (I' o 7).toInt) → (Im ((I' o 8).toInt ≠ 0) ((I0 o 7).toInt < (I' o 7).toInt)) → (Im ((I' o 8).toInt = 5) (0 ≤ (I' o 9).toInt ∧ (I' o 9).toInt ≤ 15)) → ((I' o 3).toInt = (I0 o 3).toInt) → ((I' o 4).toInt = (I0 o 4).toInt) → ((I' o 44).toInt = (I0 o 44).toInt) → ((I' o 45).toInt = (I0 o 45).toInt) → ((I' o 46).toInt = (I0 o 46).toInt) → ((I' o 47).toInt = (I0 o 47).toInt) → ((I' o 48).toInt = (I0 o 48).toInt) → ((I' o 49).toInt = (I0 o 49).toInt) → post none (n, sh, Rf, I', L')) : Ev (qGG D cA b E) mModel_next 2 (0, 0) 0 (lv_args 0 [.ref o]) [] (n, sh, Rf, I0, L0) post := by
  have hf : Fm (fun c => c = o) I0 I0 := Fm.rf
  have g_1356 : (0 : Int) ≤ (I0 o 6).toInt ∧ (I0 o 6).toInt ≤ 1600 := hR.at0 ra 6 (by decide)
  have g_1357 : (0 : Int) ≤ (I0 o 7).toInt ∧ (I0 o 7).toInt ≤ 1601 := hR.at0 ra 7 (by decide)
  have g_1358 : (0 : Int) ≤ (I0 o 3).toInt ∧ (I0 o 3).toInt ≤ 1600 := hR.at0 ra 3 (by decide)
  refine sModel_next_0 o n sh Rf I0 L0 post  hok hw ?_
  unfold fModel_next_0
  have g_1359 : (0 : Int) ≤ (I0 o 7).toInt ∧ (I0 o 7).toInt ≤ 1601 := hR.at0 ra 7 (by decide)
  refine fun I_1360 e_1361 => ?_
  have hR_1362 : RI R I_1360 := hR.up0 ra (by decide) e_1361 (show (0 : Int) ≤ (I0 o 7).toInt by omega) (show (I0 o 7).toInt ≤ (1600 : Int) by omega)
  have hf_1363 : Fm (fun c => c = o) I0 I_1360 := hf.set (by first | rfl | omega | (dsimp only; omega)) e_1361
  have t_1364 : (I_1360 o 6).toInt = (I0 o 7).toInt := by rw [← e_1361, q_u_at]
  have t_1365 : (I_1360 o 7).toInt = (I0 o 7).toInt := by rw [← e_1361, q_u_k (by decide)]
  have t_1366 : (I_1360 o 8).toInt = (I0 o 8).toInt := by rw [← e_1361, q_u_k (by decide)]
  have t_1367 : (I_1360 o 9).toInt = (I0 o 9).toInt := by rw [← e_1361, q_u_k (by decide)]
  have t_1368 : (I_1360 o 3).toInt = (I0 o 3).toInt := by rw [← e_1361, q_u_k (by decide)]
  have t_1369 : (I_1360 o 4).toInt = (I0 o 4).toInt := by rw [← e_1361, q_u_k (by decide)]
  have t_1370 : (I_1360 o 44).toInt = (I0 o 44).toInt := by rw [← e_1361, q_u_k (by decide)]
  have t_1371 : (I_1360 o 45).toInt = (I0 o 45).toInt := by rw [← e_1361, q_u_k (by decide)]
  have t_1372 : (I_1360 o 46).toInt = (I0 o 46).toInt := by rw [← e_1361, q_u_k (by decide)]
  have t_1373 : (I_1360 o 47).toInt = (I0 o 47).toInt := by rw [← e_1361, q_u_k (by decide)]
  have t_1374 : (I_1360 o 48).toInt = (I0 o 48).toInt := by rw [← e_1361, q_u_k (by decide)]
  have t_1375 : (I_1360 o 49).toInt = (I0 o 49).toInt := by rw [← e_1361, q_u_k (by decide)]
  exact yModel_next_8 (I0 := I0) (L0 := L0) hok hw ra hq0 hp  _ hR_1362 hf_1363 (by first | omega | (intro h; omega) | exact Or.inl rfl | exact Or.inr rfl) (by first | omega | (intro h; omega) | exact Or.inl rfl | exact Or.inr rfl) (by first | omega | (intro h; omega) | exact Or.inl rfl | exact Or.inr rfl) (by first | omega | (intro h; omega) | exact Or.inl rfl | exact Or.inr rfl) (by first | omega | (intro h; omega) | exact Or.inl rfl | exact Or.inr rfl) (by first | omega | (intro h; omega) | exact Or.inl rfl | exact Or.inr rfl) (by first | omega | (intro h; omega) | exact Or.inl rfl | exact Or.inr rfl) (by first | omega | (intro h; omega) | exact Or.inl rfl | exact Or.inr rfl) (by first | omega | (intro h; omega) | exact Or.inl rfl | exact Or.inr rfl) (by first | omega | (intro h; omega) | exact Or.inl rfl | exact Or.inr rfl) (by first | omega | (intro h; omega) | exact Or.inl rfl | exact Or.inr rfl) (by first | omega | (intro h; omega) | exact Or.inl rfl | exact Or.inr rfl) (Nat.lt_succ_self _)
set_option maxHeartbeats 4000000 in
set_option maxRecDepth 20000 in
theorem y_Model_fails {D : va_G} {cA : FieldType → ClassId} {b : Nat} {E : State → Prop} {R : qRg} {o n : Nat} {sh : Nat → qC} {Rf : Nat → Nat → Option Nat} {I0 : Nat → Nat → Int32} {L0 : Nat → Nat → Int64} {post : Option Value → qS → Prop} {p1 : Int32} {p2 : Int32} (hok : q_ok (qGG D cA b E)) (hw : WfModel (qGG D cA b E) n sh Rf o) (ra : RAModel R o) (hq0 : (1 : Int) ≤ p1.toInt ∧ p1.toInt ≤ 5) (hR : RI R I0) (hp : ∀ (I' : Nat → Nat → Int32) (L' : Nat → Nat → Int64), RI R I' → Fm (fun c => c = o) I0 I' → (1 ≤ (I' o 4).toInt ∨ (I' o 4).toInt < 0) → (Im ((I0 o 4).toInt ≠ 0) ((I' o 4).toInt ≠ 0)) → ((I' o 2).toInt = (I0 o 2).toInt) → ((I' o 3).toInt = (I0 o 3).toInt) → ((I' o 6).toInt = (I0 o 6).toInt) → ((I' o 7).toInt = (I0 o 7).toInt) → ((I' o 8).toInt = (I0 o 8).toInt) → ((I' o 9).toInt = (I0 o 9).toInt) → ((I' o 44).toInt = (I0 o 44).toInt) → ((I' o 45).toInt = (I0 o 45).toInt) → ((I' o 46).toInt = (I0 o 46).toInt) → ((I' o 47).toInt = (I0 o 47).toInt) → ((I' o 48).toInt = (I0 o 48).toInt) → ((I' o 49).toInt = (I0 o 49).toInt) → post none (n, sh, Rf, I', L')) : Ev (qGG D cA b E) mModel_fails 0 (0, 0) 0 (lv_args 0 [.ref o, .int p1, .int p2]) [] (n, sh, Rf, I0, L0) post := by
  have hf : Fm (fun c => c = o) I0 I0 := Fm.rf
  have g_1 : (0 : Int) ≤ (I0 o 2).toInt ∧ (I0 o 2).toInt ≤ 1600 := hR.at0 ra 2 (by decide)
  have g_2 : (0 : Int) ≤ (I0 o 3).toInt ∧ (I0 o 3).toInt ≤ 1600 := hR.at0 ra 3 (by decide)
  have g_3 : (0 : Int) ≤ (I0 o 6).toInt ∧ (I0 o 6).toInt ≤ 1600 := hR.at0 ra 6 (by decide)
  have g_4 : (0 : Int) ≤ (I0 o 7).toInt ∧ (I0 o 7).toInt ≤ 1601 := hR.at0 ra 7 (by decide)
  refine sModel_fails_0 o n sh Rf I0 L0 post p1 p2 hok hw ?_
  unfold fModel_fails_0
  have l_5 : (0 : Int32).toInt = 0 := rfl
  refine ⟨fun c_6 => ?_, fun c_6 => ?_⟩
  · have d_7 := iLe c_6
    refine fun I_8 e_9 => ?_
    have hR_10 : RI R I_8 := hR.up0 ra (by decide) e_9 (i_lo _) (i_hi _)
    have hf_11 : Fm (fun c => c = o) I0 I_8 := hf.set (by first | rfl | omega | (dsimp only; omega)) e_9
    have t_12 : (I_8 o 4).toInt = p1.toInt := by rw [← e_9, q_u_at]
    have t_13 : (I_8 o 2).toInt = (I0 o 2).toInt := by rw [← e_9, q_u_k (by decide)]
    have t_14 : (I_8 o 3).toInt = (I0 o 3).toInt := by rw [← e_9, q_u_k (by decide)]
    have t_15 : (I_8 o 6).toInt = (I0 o 6).toInt := by rw [← e_9, q_u_k (by decide)]
    have t_16 : (I_8 o 7).toInt = (I0 o 7).toInt := by rw [← e_9, q_u_k (by decide)]
    have t_17 : (I_8 o 8).toInt = (I0 o 8).toInt := by rw [← e_9, q_u_k (by decide)]
    have t_18 : (I_8 o 9).toInt = (I0 o 9).toInt := by rw [← e_9, q_u_k (by decide)]
    have t_19 : (I_8 o 44).toInt = (I0 o 44).toInt := by rw [← e_9, q_u_k (by decide)]
    have t_20 : (I_8 o 45).toInt = (I0 o 45).toInt := by rw [← e_9, q_u_k (by decide)]
    have t_21 : (I_8 o 46).toInt = (I0 o 46).toInt := by rw [← e_9, q_u_k (by decide)]
    have t_22 : (I_8 o 47).toInt = (I0 o 47).toInt := by rw [← e_9, q_u_k (by decide)]
    have t_23 : (I_8 o 48).toInt = (I0 o 48).toInt := by rw [← e_9, q_u_k (by decide)]
    have t_24 : (I_8 o 49).toInt = (I0 o 49).toInt := by rw [← e_9, q_u_k (by decide)]
    refine fun I_25 e_26 => ?_
    have hR_27 : RI R I_25 := hR_10.up0 ra (by decide) e_26 (i_lo _) (i_hi _)
    have hf_28 : Fm (fun c => c = o) I0 I_25 := hf_11.set (by first | rfl | omega | (dsimp only; omega)) e_26
    have t_29 : (I_25 o 4).toInt = (I_8 o 4).toInt := by rw [← e_26, q_u_k (by decide)]
    have t_30 : (I_25 o 2).toInt = (I_8 o 2).toInt := by rw [← e_26, q_u_k (by decide)]
    have t_31 : (I_25 o 3).toInt = (I_8 o 3).toInt := by rw [← e_26, q_u_k (by decide)]
    have t_32 : (I_25 o 6).toInt = (I_8 o 6).toInt := by rw [← e_26, q_u_k (by decide)]
    have t_33 : (I_25 o 7).toInt = (I_8 o 7).toInt := by rw [← e_26, q_u_k (by decide)]
    have t_34 : (I_25 o 8).toInt = (I_8 o 8).toInt := by rw [← e_26, q_u_k (by decide)]
    have t_35 : (I_25 o 9).toInt = (I_8 o 9).toInt := by rw [← e_26, q_u_k (by decide)]
    have t_36 : (I_25 o 44).toInt = (I_8 o 44).toInt := by rw [← e_26, q_u_k (by decide)]
    have t_37 : (I_25 o 45).toInt = (I_8 o 45).toInt := by rw [← e_26, q_u_k (by decide)]
    have t_38 : (I_25 o 46).toInt = (I_8 o 46).toInt := by rw [← e_26, q_u_k (by decide)]
    have t_39 : (I_25 o 47).toInt = (I_8 o 47).toInt := by rw [← e_26, q_u_k (by decide)]
    have t_40 : (I_25 o 48).toInt = (I_8 o 48).toInt := by rw [← e_26, q_u_k (by decide)]
    have t_41 : (I_25 o 49).toInt = (I_8 o 49).toInt := by rw [← e_26, q_u_k (by decide)]
    exact (hp _ _ hR_27 hf_28 (by first | omega | (intro h; omega) | exact Or.inl rfl | exact Or.inr rfl) (by intro _; omega) (by first | omega | (intro h; omega) | exact Or.inl rfl | exact Or.inr rfl) (by first | omega | (intro h; omega) | exact Or.inl rfl | exact Or.inr rfl) (by first | omega | (intro h; omega) | exact Or.inl rfl | exact Or.inr rfl) (by first | omega | (intro h; omega) | exact Or.inl rfl | exact Or.inr rfl) (by first | omega | (intro h; omega) | exact Or.inl rfl | exact Or.inr rfl) (by first | omega | (intro h; omega) | exact Or.inl rfl | exact Or.inr rfl) (by first | omega | (intro h; omega) | exact Or.inl rfl | exact Or.inr rfl) (by first | omega | (intro h; omega) | exact Or.inl rfl | exact Or.inr rfl) (by first | omega | (intro h; omega) | exact Or.inl rfl | exact Or.inr rfl) (by first | omega | (intro h; omega) | exact Or.inl rfl | exact Or.inr rfl) (by first | omega | (intro h; omega) | exact Or.inl rfl | exact Or.inr rfl) (by first | omega | (intro h; omega) | exact Or.inl rfl | exact Or.inr rfl))
  · have d_42 := iNle c_6
    exact (hp _ _ hR hf (by first | omega | (intro h; omega) | exact Or.inl rfl | exact Or.inr rfl) (by intro _; omega) (by first | omega | (intro h; omega) | exact Or.inl rfl | exact Or.inr rfl) (by first | omega | (intro h; omega) | exact Or.inl rfl | exact Or.inr rfl) (by first | omega | (intro h; omega) | exact Or.inl rfl | exact Or.inr rfl) (by first | omega | (intro h; omega) | exact Or.inl rfl | exact Or.inr rfl) (by first | omega | (intro h; omega) | exact Or.inl rfl | exact Or.inr rfl) (by first | omega | (intro h; omega) | exact Or.inl rfl | exact Or.inr rfl) (by first | omega | (intro h; omega) | exact Or.inl rfl | exact Or.inr rfl) (by first | omega | (intro h; omega) | exact Or.inl rfl | exact Or.inr rfl) (by first | omega | (intro h; omega) | exact Or.inl rfl | exact Or.inr rfl) (by first | omega | (intro h; omega) | exact Or.inl rfl | exact Or.inr rfl) (by first | omega | (intro h; omega) | exact Or.inl rfl | exact Or.inr rfl) (by first | omega | (intro h; omega) | exact Or.inl rfl | exact Or.inr rfl))
set_option maxHeartbeats 4000000 in
set_option maxRecDepth 20000 in
theorem y_Model_is {D : va_G} {cA : FieldType → ClassId} {b : Nat} {E : State → Prop} {R : qRg} {o n : Nat} {sh : Nat → qC} {Rf : Nat → Nat → Option Nat} {I0 : Nat → Nat → Int32} {L0 : Nat → Nat → Int64} {post : Option Value → qS → Prop} {p1 : Int32} (hok : q_ok (qGG D cA b E)) (hw : WfModel (qGG D cA b E) n sh Rf o) (ra : RAModel R o) (hR : RI R I0) (hp : ∀ (r : Int32) , (Bz r) → post (some (.int r)) (n, sh, Rf, I0, L0)) : Ev (qGG D cA b E) mModel_is 1 (0, 0) 0 (lv_args 0 [.ref o, .int p1]) [] (n, sh, Rf, I0, L0) post := by
  refine sModel_is_0 o n sh Rf I0 L0 post p1 hok hw ?_
  unfold fModel_is_0
  have l_1 : (6 : Int32).toInt = 6 := rfl
  refine ⟨fun c_2 => ?_, fun c_2 => ?_⟩
  · have d_3 := iNe c_2
    have l_4 : (0 : Int32).toInt = 0 := rfl
    exact (hp _ (Or.inl rfl))
  · have d_5 := iEq c_2
    have g_6 : (0 : Int) ≤ (I0 o 6).toInt ∧ (I0 o 6).toInt ≤ 1600 := hR.at0 ra 6 (by decide)
    refine y_Model_sign hok hw ra (by first | omega | (intro h; omega) | exact Or.inl rfl | exact Or.inr rfl) hR (fun r_7 u_8 u_9 => ⟨r_7, I0, L0, rfl, rfl, ?_⟩)
    refine ⟨fun c_10 => ?_, fun c_10 => ?_⟩
    · have d_11 := iNe c_10
      have l_12 : (0 : Int32).toInt = 0 := rfl
      exact (hp _ (Or.inl rfl))
    · have d_13 := iEq c_10
      have l_14 : (1 : Int32).toInt = 1 := rfl
      exact (hp _ (Or.inr rfl))
set_option maxHeartbeats 4000000 in
set_option maxRecDepth 20000 in
theorem y_Model_isWord {D : va_G} {cA : FieldType → ClassId} {b : Nat} {E : State → Prop} {R : qRg} {o n : Nat} {sh : Nat → qC} {Rf : Nat → Nat → Option Nat} {I0 : Nat → Nat → Int32} {L0 : Nat → Nat → Int64} {post : Option Value → qS → Prop} {p1 : Int64} (hok : q_ok (qGG D cA b E)) (hw : WfModel (qGG D cA b E) n sh Rf o) (ra : RAModel R o) (hR : RI R I0) (hp : ∀ (r : Int32) , (Bz r) → (Im (r.toInt ≠ 0) ((I0 o 8).toInt = 3)) → post (some (.int r)) (n, sh, Rf, I0, L0)) : Ev (qGG D cA b E) mModel_isWord 0 (0, 0) 0 (lv_args 0 [.ref o, .long p1]) [] (n, sh, Rf, I0, L0) post := by
  refine sModel_isWord_0 o n sh Rf I0 L0 post p1 hok hw ?_
  unfold fModel_isWord_0
  have l_1 : (3 : Int32).toInt = 3 := rfl
  refine ⟨fun c_2 => ?_, fun c_2 => ?_⟩
  · have d_3 := iNe c_2
    have l_4 : (0 : Int32).toInt = 0 := rfl
    exact (hp _ (Or.inl rfl) (by intro _; omega))
  · have d_5 := iEq c_2
    have l_6 : (0 : Int32).toInt = 0 := rfl
    refine ⟨fun c_7 => ?_, fun c_7 => ?_⟩
    · have d_8 := iNe c_7
      exact (hp _ (Or.inl rfl) (by intro _; omega))
    · have d_9 := iEq c_7
      have l_10 : (1 : Int32).toInt = 1 := rfl
      exact (hp _ (Or.inr rfl) (by intro _; omega))
set_option maxHeartbeats 4000000 in
set_option maxRecDepth 20000 in
theorem yModel_takeTape_25 {D : va_G} {cA : FieldType → ClassId} {b : Nat} {E : State → Prop} {R : qRg} {o n : Nat} {sh : Nat → qC} {Rf : Nat → Nat → Option Nat} {I0 : Nat → Nat → Int32} {L0 : Nat → Nat → Int64} {post : Option Value → qS → Prop} {p1 : Int32} (hok : q_ok (qGG D cA b E)) (hw : WfModel (qGG D cA b E) n sh Rf o) (ra : RAModel R o) (hq0 : p1 = 0 ∨ p1 = 1) (hp : ∀ (I' : Nat → Nat → Int32) (L' : Nat → Nat → Int64), RI R I' → Fm (fun c => c = o ∨ c = o + 2) I0 I' → ((I' o 7).toInt = 0) → ((I' o 4).toInt = 0) → ((I' o 3).toInt = (I0 o 2).toInt) → ((I' o 2).toInt = 0) → post none (n, sh, Rf, I', L')) : ∀ (k : Nat) {x1 : Int32} {x2 : Int32} {I : Nat → Nat → Int32} {L : Nat → Nat → Int64}, RI R I → Fm (fun c => c = o ∨ c = o + 2) I0 I → ((0 : Int) ≤ x2.toInt ∧ x2.toInt ≤ 1600) → ((I o 4).toInt = 0) → ((I o 3).toInt = (I0 o 2).toInt) → ((I o 2).toInt = (I0 o 2).toInt) → (1600 - x2.toInt).toNat < k → Ev (qGG D cA b E) mModel_takeTape 0 (0, 0) 25 [(0, .ref o), (1, .int x1), (2, .int x2)] [] (n, sh, Rf, I, L) post := by
  intro k
  induction k with
  | zero =>
    intro x1 x2 I L hR hf hi0 hi1 hi2 hi3 hm
    exact absurd hm (Nat.not_lt_zero _)
  | succ k ih =>
    intro x1 x2 I L hR hf hi0 hi1 hi2 hi3 hm
    have g_1 : (0 : Int) ≤ (I o 2).toInt ∧ (I o 2).toInt ≤ 1600 := hR.at0 ra 2 (by decide)
    have g_2 : (0 : Int) ≤ (I o 3).toInt ∧ (I o 3).toInt ≤ 1600 := hR.at0 ra 3 (by decide)
    have g_3 : (0 : Int) ≤ (I o 7).toInt ∧ (I o 7).toInt ≤ 1601 := hR.at0 ra 7 (by decide)
    refine sModel_takeTape_25 o n sh Rf I L post x1 x2 hok hw ?_
    unfold fModel_takeTape_25
    have g_4 : (0 : Int) ≤ (I o 3).toInt ∧ (I o 3).toInt ≤ 1600 := hR.at0 ra 3 (by decide)
    refine ⟨fun c_5 => ?_, fun c_5 => ?_⟩
    · have d_6 := iLe c_5
      have l_7 : (0 : Int32).toInt = 0 := rfl
      refine fun I_8 e_9 => ?_
      have hR_10 : RI R I_8 := hR.up0 ra (by decide) e_9 (show (0 : Int) ≤ (0 : Int32).toInt by omega) (show (0 : Int32).toInt ≤ (1600 : Int) by omega)
      have hf_11 : Fm (fun c => c = o ∨ c = o + 2) I0 I_8 := hf.set (by first | rfl | omega | (dsimp only; omega)) e_9
      have t_12 : (I_8 o 2).toInt = (0 : Int32).toInt := by rw [← e_9, q_u_at]
      have t_13 : (I_8 o 3).toInt = (I o 3).toInt := by rw [← e_9, q_u_k (by decide)]
      have t_14 : (I_8 o 4).toInt = (I o 4).toInt := by rw [← e_9, q_u_k (by decide)]
      have t_15 : (I_8 o 7).toInt = (I o 7).toInt := by rw [← e_9, q_u_k (by decide)]
      refine fun I_16 e_17 => ?_
      have hR_18 : RI R I_16 := hR_10.up0 ra (by decide) e_17 (show (0 : Int) ≤ (0 : Int32).toInt by omega) (show (0 : Int32).toInt ≤ (1601 : Int) by omega)
      have hf_19 : Fm (fun c => c = o ∨ c = o + 2) I0 I_16 := hf_11.set (by first | rfl | omega | (dsimp only; omega)) e_17
      have t_20 : (I_16 o 2).toInt = (I_8 o 2).toInt := by rw [← e_17, q_u_k (by decide)]
      have t_21 : (I_16 o 3).toInt = (I_8 o 3).toInt := by rw [← e_17, q_u_k (by decide)]
      have t_22 : (I_16 o 4).toInt = (I_8 o 4).toInt := by rw [← e_17, q_u_k (by decide)]
      have t_23 : (I_16 o 7).toInt = (0 : Int32).toInt := by rw [← e_17, q_u_at]
      exact (hp _ _ hR_18 hf_19 (by first | omega | (intro h; omega) | exact Or.inl rfl | exact Or.inr rfl) (by first | omega | (intro h; omega) | exact Or.inl rfl | exact Or.inr rfl) (by first | omega | (intro h; omega) | exact Or.inl rfl | exact Or.inr rfl) (by first | omega | (intro h; omega) | exact Or.inl rfl | exact Or.inr rfl))
    · have d_24 := iNle c_5
      refine ⟨tIn (by omega) (by omega), ?_⟩
      refine ⟨tIn (by omega) (by omega), fun I_25 e_26 => ?_⟩
      have hR_27 : RI R I_25 := hR.up ra 2 (by decide) e_26 (i_lo _) (i_hi _)
      have hf_28 : Fm (fun c => c = o ∨ c = o + 2) I0 I_25 := hf.set (by first | rfl | omega | (dsimp only; omega)) e_26
      have t_29 : (I_25 o 2).toInt = (I o 2).toInt := by rw [← e_26, q_u_ne (by omega)]
      have t_30 : (I_25 o 3).toInt = (I o 3).toInt := by rw [← e_26, q_u_ne (by omega)]
      have t_31 : (I_25 o 4).toInt = (I o 4).toInt := by rw [← e_26, q_u_ne (by omega)]
      have t_32 : (I_25 o 7).toInt = (I o 7).toInt := by rw [← e_26, q_u_ne (by omega)]
      have a_34 : (x2 + Int32.ofInt 1).toInt = x2.toInt + (1) := tIc (by omega) (by omega) (by decide) (by decide)
      generalize ez_33 : (x2 + Int32.ofInt 1) = z_33 at a_34 ⊢
      exact ih hR_27 hf_28 (by first | omega | (intro h; omega) | exact Or.inl rfl | exact Or.inr rfl) (by first | omega | (intro h; omega) | exact Or.inl rfl | exact Or.inr rfl) (by first | omega | (intro h; omega) | exact Or.inl rfl | exact Or.inr rfl) (by first | omega | (intro h; omega) | exact Or.inl rfl | exact Or.inr rfl) (by omega)
set_option maxHeartbeats 4000000 in
set_option maxRecDepth 20000 in
theorem y_Model_takeTape {D : va_G} {cA : FieldType → ClassId} {b : Nat} {E : State → Prop} {R : qRg} {o n : Nat} {sh : Nat → qC} {Rf : Nat → Nat → Option Nat} {I0 : Nat → Nat → Int32} {L0 : Nat → Nat → Int64} {post : Option Value → qS → Prop} {p1 : Int32} (hok : q_ok (qGG D cA b E)) (hw : WfModel (qGG D cA b E) n sh Rf o) (ra : RAModel R o) (hq0 : p1 = 0 ∨ p1 = 1) (hR : RI R I0) (hp : ∀ (I' : Nat → Nat → Int32) (L' : Nat → Nat → Int64), RI R I' → Fm (fun c => c = o ∨ c = o + 2) I0 I' → ((I' o 7).toInt = 0) → ((I' o 4).toInt = 0) → ((I' o 3).toInt = (I0 o 2).toInt) → ((I' o 2).toInt = 0) → post none (n, sh, Rf, I', L')) : Ev (qGG D cA b E) mModel_takeTape 0 (0, 0) 0 (lv_args 0 [.ref o, .int p1]) [] (n, sh, Rf, I0, L0) post := by
  have hf : Fm (fun c => c = o ∨ c = o + 2) I0 I0 := Fm.rf
  have g_35 : (0 : Int) ≤ (I0 o 2).toInt ∧ (I0 o 2).toInt ≤ 1600 := hR.at0 ra 2 (by decide)
  have g_36 : (0 : Int) ≤ (I0 o 3).toInt ∧ (I0 o 3).toInt ≤ 1600 := hR.at0 ra 3 (by decide)
  have g_37 : (0 : Int) ≤ (I0 o 7).toInt ∧ (I0 o 7).toInt ≤ 1601 := hR.at0 ra 7 (by decide)
  refine sModel_takeTape_0 o n sh Rf I0 L0 post p1 hok hw ?_
  unfold fModel_takeTape_0
  refine ⟨hq0, fun I_38 e_39 => ?_⟩
  have hR_40 : RI R I_38 := hR.up0 ra (by decide) e_39 (i_lo _) (i_hi _)
  have hf_41 : Fm (fun c => c = o ∨ c = o + 2) I0 I_38 := hf.set (by first | rfl | omega | (dsimp only; omega)) e_39
  have t_42 : (I_38 o 2).toInt = (I0 o 2).toInt := by rw [← e_39, q_u_k (by decide)]
  have t_43 : (I_38 o 3).toInt = (I0 o 3).toInt := by rw [← e_39, q_u_k (by decide)]
  have t_44 : (I_38 o 4).toInt = (I0 o 4).toInt := by rw [← e_39, q_u_k (by decide)]
  have t_45 : (I_38 o 7).toInt = (I0 o 7).toInt := by rw [← e_39, q_u_k (by decide)]
  have l_46 : (0 : Int32).toInt = 0 := rfl
  refine fun I_47 e_48 => ?_
  have hR_49 : RI R I_47 := hR_40.up0 ra (by decide) e_48 (i_lo _) (i_hi _)
  have hf_50 : Fm (fun c => c = o ∨ c = o + 2) I0 I_47 := hf_41.set (by first | rfl | omega | (dsimp only; omega)) e_48
  have t_51 : (I_47 o 2).toInt = (I_38 o 2).toInt := by rw [← e_48, q_u_k (by decide)]
  have t_52 : (I_47 o 3).toInt = (I_38 o 3).toInt := by rw [← e_48, q_u_k (by decide)]
  have t_53 : (I_47 o 4).toInt = (0 : Int32).toInt := by rw [← e_48, q_u_at]
  have t_54 : (I_47 o 7).toInt = (I_38 o 7).toInt := by rw [← e_48, q_u_k (by decide)]
  have l_55 : (-1 : Int32).toInt = -1 := rfl
  refine fun I_56 e_57 => ?_
  have hR_58 : RI R I_56 := hR_49.up0 ra (by decide) e_57 (i_lo _) (i_hi _)
  have hf_59 : Fm (fun c => c = o ∨ c = o + 2) I0 I_56 := hf_50.set (by first | rfl | omega | (dsimp only; omega)) e_57
  have t_60 : (I_56 o 2).toInt = (I_47 o 2).toInt := by rw [← e_57, q_u_k (by decide)]
  have t_61 : (I_56 o 3).toInt = (I_47 o 3).toInt := by rw [← e_57, q_u_k (by decide)]
  have t_62 : (I_56 o 4).toInt = (I_47 o 4).toInt := by rw [← e_57, q_u_k (by decide)]
  have t_63 : (I_56 o 7).toInt = (I_47 o 7).toInt := by rw [← e_57, q_u_k (by decide)]
  have g_64 : (0 : Int) ≤ (I_56 o 2).toInt ∧ (I_56 o 2).toInt ≤ 1600 := hR_58.at0 ra 2 (by decide)
  refine fun I_65 e_66 => ?_
  have hR_67 : RI R I_65 := hR_58.up0 ra (by decide) e_66 (show (0 : Int) ≤ (I_56 o 2).toInt by omega) (show (I_56 o 2).toInt ≤ (1600 : Int) by omega)
  have hf_68 : Fm (fun c => c = o ∨ c = o + 2) I0 I_65 := hf_59.set (by first | rfl | omega | (dsimp only; omega)) e_66
  have t_69 : (I_65 o 2).toInt = (I_56 o 2).toInt := by rw [← e_66, q_u_k (by decide)]
  have t_70 : (I_65 o 3).toInt = (I_56 o 2).toInt := by rw [← e_66, q_u_at]
  have t_71 : (I_65 o 4).toInt = (I_56 o 4).toInt := by rw [← e_66, q_u_k (by decide)]
  have t_72 : (I_65 o 7).toInt = (I_56 o 7).toInt := by rw [← e_66, q_u_k (by decide)]
  exact yModel_takeTape_25 (I0 := I0) (L0 := L0) (p1 := p1) hok hw ra hq0 hp  _ hR_67 hf_68 (by first | omega | (intro h; omega) | exact Or.inl rfl | exact Or.inr rfl) (by first | omega | (intro h; omega) | exact Or.inl rfl | exact Or.inr rfl) (by first | omega | (intro h; omega) | exact Or.inl rfl | exact Or.inr rfl) (by first | omega | (intro h; omega) | exact Or.inl rfl | exact Or.inr rfl) (Nat.lt_succ_self _)
