/-! Safety of the reference, its TOKENS: by program (spec.py). -/
/-- n digits behind k give v -/
def PtN (B : Nat → Int32) (len k : Int32) (n v : Int) : Prop := (n = 0 → v = 0) ∧ (n = 1 → 48 ≤ (sgF B len k).toInt ∧ (sgF B len k).toInt ≤ 57 ∧ v = (sgF B len k).toInt - 48) ∧ (n = 2 → 48 ≤ (sgF B len k).toInt ∧ (sgF B len k).toInt ≤ 57 ∧ 48 ≤ (sgF B len (k + 1)).toInt ∧ (sgF B len (k + 1)).toInt ≤ 57 ∧ v = 10 * ((sgF B len k).toInt - 48) + (sgF B len (k + 1)).toInt - 48)
/-- a POINT's number of r digits -/
def PtR (B : Nat → Int32) (len k : Int32) (r : Int) : Prop := (r = 1 → 48 ≤ (sgF B len k).toInt ∧ (sgF B len k).toInt ≤ 57) ∧ (r = 2 → 48 ≤ (sgF B len k).toInt ∧ (sgF B len k).toInt ≤ 57 ∧ 48 ≤ (sgF B len (k + 1)).toInt ∧ (sgF B len (k + 1)).toInt ≤ 57 ∧ 10 * ((sgF B len k).toInt - 48) + (sgF B len (k + 1)).toInt - 48 ≤ 15)
theorem PtN.zero {B : Nat → Int32} {len k : Int32} : PtN B len k (0 : Int32).toInt (0 : Int32).toInt := ⟨fun _ => rfl, fun h => absurd h (by decide), fun h => absurd h (by decide)⟩
theorem PtN.step {B : Nat → Int32} {len k y v c : Int32} {y' : Int} (h : PtN B len k y.toInt v.toInt) (hy : y' = y.toInt + 1) (h0 : 0 ≤ y.toInt) (hc : c = sgF B len (k + y)) (d1 : 48 ≤ c.toInt) (d2 : c.toInt ≤ 57) : PtN B len k y' (10 * v + c - 48).toInt := by
  obtain ⟨p0, p1, p2⟩ := h
  have e48 : (48 : Int32).toInt = 48 := rfl
  have st : 0 ≤ v.toInt → v.toInt ≤ 9 → (10 * v + c - 48).toInt = 10 * v.toInt + c.toInt - 48 := fun a1 a2 => by
    have s2 : (10 * v).toInt = 10 * v.toInt := tMulL rfl (by omega) (by omega)
    have s3 : (10 * v + c).toInt = (10 * v).toInt + c.toInt := tAdd (by omega) (by omega)
    have s4 : (10 * v + c - 48).toInt = (10 * v + c).toInt - (48 : Int32).toInt := tSub (by omega) (by omega)
    omega
  refine ⟨fun h => absurd h (by omega), fun h => ?_, fun h => ?_⟩
  · have ey : y = 0 := Int32.toInt_inj.mp (show y.toInt = (0 : Int32).toInt by have : (0 : Int32).toInt = 0 := rfl; omega)
    have v0 := p0 (by omega)
    have q := st (by omega) (by omega)
    rw [ey, Int32.add_zero] at hc
    rw [← hc]
    omega
  · have ey : y = 1 := Int32.toInt_inj.mp (show y.toInt = (1 : Int32).toInt by have : (1 : Int32).toInt = 1 := rfl; omega)
    have v1 := p1 (by omega)
    have q := st (by omega) (by omega)
    rw [ey] at hc
    rw [← hc]
    omega
theorem PtN.out {B : Nat → Int32} {len k : Int32} {n v : Int} (h : PtN B len k n v) (hv : v ≤ 15) : PtR B len k n := by
  obtain ⟨_, p1, p2⟩ := h
  exact ⟨fun e => ⟨(p1 e).1, (p1 e).2.1⟩, fun e => by have q := p2 e; omega⟩
theorem PtR.no {B : Nat → Int32} {len k : Int32} : PtR B len k (0 : Int32).toInt := ⟨fun h => absurd h (by decide), fun h => absurd h (by decide)⟩
set_option maxHeartbeats 4000000 in
set_option maxRecDepth 20000 in
theorem yModel_pointAt_4 {D : va_G} {cA : FieldType → ClassId} {b : Nat} {E : State → Prop} {R : qRg} {o n : Nat} {sh : Nat → qC} {Rf : Nat → Nat → Option Nat} {I0 : Nat → Nat → Int32} {L0 : Nat → Nat → Int64} {post : Option Value → qS → Prop} {p1 : Int32} (hok : q_ok (qGG D cA b E)) (hw : WfModel (qGG D cA b E) n sh Rf o) (ra : RAModel R o) (hq0 : (0 : Int) ≤ p1.toInt ∧ p1.toInt ≤ 1700) (hR : RI R I0) (hp : ∀ (r : Int32) , (((0 : Int) ≤ r.toInt ∧ r.toInt ≤ 2)) → (PtR (I0 (o + 2)) (I0 o 3) p1 r.toInt) → post (some (.int r)) (n, sh, Rf, I0, L0)) : ∀ (k : Nat) {x1 : Int32} {x2 : Int32} {x3 : Int32} , ((0 : Int) ≤ x2.toInt ∧ x2.toInt ≤ 3) → ((0 : Int) ≤ x1.toInt ∧ x1.toInt ≤ 1700) → (x1 = p1) → (PtN (I0 (o + 2)) (I0 o 3) x1 x2.toInt x3.toInt) → (3 - x2.toInt).toNat < k → Ev (qGG D cA b E) mModel_pointAt 1 (0, 0) 4 [(0, .ref o), (1, .int x1), (2, .int x2), (3, .int x3)] [] (n, sh, Rf, I0, L0) post := by
  intro k
  induction k with
  | zero =>
    intro x1 x2 x3 hi0 hi1 hi2 hi3 hm
    exact absurd hm (Nat.not_lt_zero _)
  | succ k ih =>
    intro x1 x2 x3 hi0 hi1 hi2 hi3 hm
    refine sModel_pointAt_4 o n sh Rf I0 L0 post x1 x2 x3 hok hw ?_
    unfold fModel_pointAt_4
    have l_1 : (3 : Int32).toInt = 3 := rfl
    refine ⟨fun c_2 => ?_, fun c_2 => ?_⟩
    · have d_3 := iLe c_2
      unfold fModel_pointAt_44
      have l_4 : (1 : Int32).toInt = 1 := rfl
      refine ⟨fun c_5 => ?_, fun c_5 => ?_⟩
      · have d_6 := iLt c_5
        exfalso; omega
      · have d_7 := iNlt c_5
        have l_8 : (2 : Int32).toInt = 2 := rfl
        refine ⟨fun c_9 => ?_, fun c_9 => ?_⟩
        · have d_10 := iLt c_9
          unfold fModel_pointAt_73
          have l_11 : (0 : Int32).toInt = 0 := rfl
          exact (hp _ (by first | omega | (intro h; omega) | exact Or.inl rfl | exact Or.inr rfl) (by first | exact PtR.no | (subst_vars; exact PtN.out (by assumption) (by omega))))
        · have d_12 := iNlt c_9
          exfalso; omega
    · have d_13 := iNle c_2
      have a_14 : (x1 + x2).toInt = x1.toInt + x2.toInt := tAdd (by omega) (by omega)
      refine y_Model_sign hok hw ra (by first | omega | (intro h; omega) | exact Or.inl rfl | exact Or.inr rfl) hR (fun r_15 u_16 u_17 => ⟨r_15, I0, L0, rfl, rfl, ?_⟩)
      refine y_Model_isDigit hok hR (fun r_18 u_19 u_20 u_21 => ⟨r_18, I0, L0, rfl, rfl, ?_⟩)
      have b_22 : 0 ≤ r_18.toInt ∧ r_18.toInt ≤ 1 := u_19.rg
      have l_23 : (0 : Int32).toInt = 0 := rfl
      refine ⟨fun c_24 => ?_, fun c_24 => ?_⟩
      · have d_25 := iEq c_24
        unfold fModel_pointAt_44
        have l_26 : (1 : Int32).toInt = 1 := rfl
        refine ⟨fun c_27 => ?_, fun c_27 => ?_⟩
        · have d_28 := iLt c_27
          unfold fModel_pointAt_73
          exact (hp _ (by first | omega | (intro h; omega) | exact Or.inl rfl | exact Or.inr rfl) (by first | exact PtR.no | (subst_vars; exact PtN.out (by assumption) (by omega))))
        · have d_29 := iNlt c_27
          have l_30 : (2 : Int32).toInt = 2 := rfl
          refine ⟨fun c_31 => ?_, fun c_31 => ?_⟩
          · have d_32 := iLt c_31
            exfalso; omega
          · have d_33 := iNlt c_31
            have l_34 : (16 : Int32).toInt = 16 := rfl
            refine ⟨fun c_35 => ?_, fun c_35 => ?_⟩
            · have d_36 := iLe c_35
              unfold fModel_pointAt_73
              exact (hp _ (by first | omega | (intro h; omega) | exact Or.inl rfl | exact Or.inr rfl) (by first | exact PtR.no | (subst_vars; exact PtN.out (by assumption) (by omega))))
            · have d_37 := iNle c_35
              have a_38 : (x1 + x2).toInt = x1.toInt + x2.toInt := tAdd (by omega) (by omega)
              refine y_Model_sign hok hw ra (by first | omega | (intro h; omega) | exact Or.inl rfl | exact Or.inr rfl) hR (fun r_39 u_40 u_41 => ⟨r_39, I0, L0, rfl, rfl, ?_⟩)
              refine y_Model_isLetter hok hR (fun r_42 u_43 u_44 => ⟨r_42, I0, L0, rfl, rfl, ?_⟩)
              have b_45 : 0 ≤ r_42.toInt ∧ r_42.toInt ≤ 1 := u_43.rg
              refine ⟨fun c_46 => ?_, fun c_46 => ?_⟩
              · have d_47 := iEq c_46
                exact (hp _ (by first | omega | (intro h; omega) | exact Or.inl rfl | exact Or.inr rfl) (by first | exact PtR.no | (subst_vars; exact PtN.out (by assumption) (by omega))))
              · have d_48 := iNe c_46
                unfold fModel_pointAt_73
                exact (hp _ (by first | omega | (intro h; omega) | exact Or.inl rfl | exact Or.inr rfl) (by first | exact PtR.no | (subst_vars; exact PtN.out (by assumption) (by omega))))
      · have d_49 := iNe c_24
        have dg := u_20 (by omega)
        have a_50 : (x1 + x2).toInt = x1.toInt + x2.toInt := tAdd (by omega) (by omega)
        refine y_Model_sign hok hw ra (by first | omega | (intro h; omega) | exact Or.inl rfl | exact Or.inr rfl) hR (fun r_51 u_52 u_53 => ⟨r_51, I0, L0, rfl, rfl, ?_⟩)
        have sq := u_53
        have be := iEq ((u_53).trans (u_17).symm)
        have a_55 : (x2 + Int32.ofInt 1).toInt = x2.toInt + (1) := tIc (by omega) (by omega) (by decide) (by decide)
        generalize ez_54 : (x2 + Int32.ofInt 1) = z_54 at a_55 ⊢
        exact ih (by first | omega | (intro h; omega) | exact Or.inl rfl | exact Or.inr rfl) (by first | omega | (intro h; omega) | exact Or.inl rfl | exact Or.inr rfl) (by first | rfl | assumption) (by first | exact PtN.zero | exact PtN.step hi3 (by omega) (by omega) sq (by omega) (by omega)) (by omega)
set_option maxHeartbeats 4000000 in
set_option maxRecDepth 20000 in
theorem y_Model_pointAt {D : va_G} {cA : FieldType → ClassId} {b : Nat} {E : State → Prop} {R : qRg} {o n : Nat} {sh : Nat → qC} {Rf : Nat → Nat → Option Nat} {I0 : Nat → Nat → Int32} {L0 : Nat → Nat → Int64} {post : Option Value → qS → Prop} {p1 : Int32} (hok : q_ok (qGG D cA b E)) (hw : WfModel (qGG D cA b E) n sh Rf o) (ra : RAModel R o) (hq0 : (0 : Int) ≤ p1.toInt ∧ p1.toInt ≤ 1700) (hR : RI R I0) (hp : ∀ (r : Int32) , (((0 : Int) ≤ r.toInt ∧ r.toInt ≤ 2)) → (PtR (I0 (o + 2)) (I0 o 3) p1 r.toInt) → post (some (.int r)) (n, sh, Rf, I0, L0)) : Ev (qGG D cA b E) mModel_pointAt 1 (0, 0) 0 (lv_args 0 [.ref o, .int p1]) [] (n, sh, Rf, I0, L0) post := by
  refine sModel_pointAt_0 o n sh Rf I0 L0 post p1 hok hw ?_
  unfold fModel_pointAt_0
  have l_56 : (0 : Int32).toInt = 0 := rfl
  exact yModel_pointAt_4 (I0 := I0) (L0 := L0) (p1 := p1) hok hw ra hq0 hR hp  _ (by first | omega | (intro h; omega) | exact Or.inl rfl | exact Or.inr rfl) (by first | omega | (intro h; omega) | exact Or.inl rfl | exact Or.inr rfl) (by first | rfl | assumption) (by first | exact PtN.zero | exact PtN.step hi3 (by omega) (by omega) sq (by omega) (by omega)) (Nat.lt_succ_self _)
set_option maxHeartbeats 4000000 in
set_option maxRecDepth 20000 in
theorem y_Model_fails {D : va_G} {cA : FieldType → ClassId} {b : Nat} {E : State → Prop} {R : qRg} {o n : Nat} {sh : Nat → qC} {Rf : Nat → Nat → Option Nat} {I0 : Nat → Nat → Int32} {L0 : Nat → Nat → Int64} {post : Option Value → qS → Prop} {p1 : Int32} {p2 : Int32} (hok : q_ok (qGG D cA b E)) (hw : WfModel (qGG D cA b E) n sh Rf o) (ra : RAModel R o) (hq0 : (1 : Int) ≤ p1.toInt ∧ p1.toInt ≤ 5) (hR : RI R I0) (hp : ∀ (I' : Nat → Nat → Int32) (L' : Nat → Nat → Int64), RI R I' → Fm (fun c => c = o) I0 I' → (1 ≤ (I' o 4).toInt ∨ (I' o 4).toInt < 0) → (Im ((I0 o 4).toInt ≠ 0) ((I' o 4).toInt ≠ 0)) → ((I' o 2).toInt = (I0 o 2).toInt) → ((I' o 3).toInt = (I0 o 3).toInt) → ((I' o 6).toInt = (I0 o 6).toInt) → ((I' o 7).toInt = (I0 o 7).toInt) → ((I' o 8).toInt = (I0 o 8).toInt) → ((I' o 9).toInt = (I0 o 9).toInt) → ((I' o 44).toInt = (I0 o 44).toInt) → ((I' o 45).toInt = (I0 o 45).toInt) → ((I' o 46).toInt = (I0 o 46).toInt) → ((I' o 47).toInt = (I0 o 47).toInt) → ((I' o 48).toInt = (I0 o 48).toInt) → ((I' o 49).toInt = (I0 o 49).toInt) → post none (n, sh, Rf, I', L')) : Ev (qGG D cA b E) mModel_fails 0 (0, 0) 0 (lv_args 0 [.ref o, .int p1, .int p2]) [] (n, sh, Rf, I0, L0) post := by
  have hf : Fm (fun c => c = o) I0 I0 := Fm.rf
  have g_1 : (0 : Int) ≤ (I0 o 2).toInt ∧ (I0 o 2).toInt ≤ 1600 := hR.at0 ra 2 (by decide)
  have g_2 : (0 : Int) ≤ (I0 o 3).toInt ∧ (I0 o 3).toInt ≤ 1600 := hR.at0 ra 3 (by decide)
  have g_3 : (0 : Int) ≤ (I0 o 6).toInt ∧ (I0 o 6).toInt ≤ 1600 := hR.at0 ra 6 (by decide)
  have g_4 : (0 : Int) ≤ (I0 o 7).toInt ∧ (I0 o 7).toInt ≤ 1601 := hR.at0 ra 7 (by decide)
  refine sModel_fails_0 o n sh Rf I0 L0 post p1 p2 hok hw ?_
  unfold fModel_fails_0
  have l_5 : (0 : Int32).toInt = 0 := rfl
  refine ⟨fun c_6 => ?_, fun c_6 => ?_⟩
  · have d_7 := iLe c_6
    refine fun I_8 e_9 => ?_
    have hR_10 : RI R I_8 := hR.up0 ra (by decide) e_9 (i_lo _) (i_hi _)
    have hf_11 : Fm (fun c => c = o) I0 I_8 := hf.set (by first | rfl | omega | (dsimp only; omega)) e_9
    have t_12 : (I_8 o 4).toInt = p1.toInt := by rw [← e_9, q_u_at]
    have t_13 : (I_8 o 2).toInt = (I0 o 2).toInt := by rw [← e_9, q_u_k (by decide)]
    have t_14 : (I_8 o 3).toInt = (I0 o 3).toInt := by rw [← e_9, q_u_k (by decide)]
    have t_15 : (I_8 o 6).toInt = (I0 o 6).toInt := by rw [← e_9, q_u_k (by decide)]
    have t_16 : (I_8 o 7).toInt = (I0 o 7).toInt := by rw [← e_9, q_u_k (by decide)]
    have t_17 : (I_8 o 8).toInt = (I0 o 8).toInt := by rw [← e_9, q_u_k (by decide)]
    have t_18 : (I_8 o 9).toInt = (I0 o 9).toInt := by rw [← e_9, q_u_k (by decide)]
    have t_19 : (I_8 o 44).toInt = (I0 o 44).toInt := by rw [← e_9, q_u_k (by decide)]
    have t_20 : (I_8 o 45).toInt = (I0 o 45).toInt := by rw [← e_9, q_u_k (by decide)]
    have t_21 : (I_8 o 46).toInt = (I0 o 46).toInt := by rw [← e_9, q_u_k (by decide)]
    have t_22 : (I_8 o 47).toInt = (I0 o 47).toInt := by rw [← e_9, q_u_k (by decide)]
    have t_23 : (I_8 o 48).toInt = (I0 o 48).toInt := by rw [← e_9, q_u_k (by decide)]
    have t_24 : (I_8 o 49).toInt = (I0 o 49).toInt := by rw [← e_9, q_u_k (by decide)]
    refine fun I_25 e_26 => ?_
    have hR_27 : RI R I_25 := hR_10.up0 ra (by decide) e_26 (i_lo _) (i_hi _)
    have hf_28 : Fm (fun c => c = o) I0 I_25 := hf_11.set (by first | rfl | omega | (dsimp only; omega)) e_26
    have t_29 : (I_25 o 4).toInt = (I_8 o 4).toInt := by rw [← e_26, q_u_k (by decide)]
    have t_30 : (I_25 o 2).toInt = (I_8 o 2).toInt := by rw [← e_26, q_u_k (by decide)]
    have t_31 : (I_25 o 3).toInt = (I_8 o 3).toInt := by rw [← e_26, q_u_k (by decide)]
    have t_32 : (I_25 o 6).toInt = (I_8 o 6).toInt := by rw [← e_26, q_u_k (by decide)]
    have t_33 : (I_25 o 7).toInt = (I_8 o 7).toInt := by rw [← e_26, q_u_k (by decide)]
    have t_34 : (I_25 o 8).toInt = (I_8 o 8).toInt := by rw [← e_26, q_u_k (by decide)]
    have t_35 : (I_25 o 9).toInt = (I_8 o 9).toInt := by rw [← e_26, q_u_k (by decide)]
    have t_36 : (I_25 o 44).toInt = (I_8 o 44).toInt := by rw [← e_26, q_u_k (by decide)]
    have t_37 : (I_25 o 45).toInt = (I_8 o 45).toInt := by rw [← e_26, q_u_k (by decide)]
    have t_38 : (I_25 o 46).toInt = (I_8 o 46).toInt := by rw [← e_26, q_u_k (by decide)]
    have t_39 : (I_25 o 47).toInt = (I_8 o 47).toInt := by rw [← e_26, q_u_k (by decide)]
    have t_40 : (I_25 o 48).toInt = (I_8 o 48).toInt := by rw [← e_26, q_u_k (by decide)]
    have t_41 : (I_25 o 49).toInt = (I_8 o 49).toInt := by rw [← e_26, q_u_k (by decide)]
    exact (hp _ _ hR_27 hf_28 (by first | omega | (intro h; omega) | exact Or.inl rfl | exact Or.inr rfl) (by intro _; omega) (by first | omega | (intro h; omega) | exact Or.inl rfl | exact Or.inr rfl) (by first | omega | (intro h; omega) | exact Or.inl rfl | exact Or.inr rfl) (by first | omega | (intro h; omega) | exact Or.inl rfl | exact Or.inr rfl) (by first | omega | (intro h; omega) | exact Or.inl rfl | exact Or.inr rfl) (by first | omega | (intro h; omega) | exact Or.inl rfl | exact Or.inr rfl) (by first | omega | (intro h; omega) | exact Or.inl rfl | exact Or.inr rfl) (by first | omega | (intro h; omega) | exact Or.inl rfl | exact Or.inr rfl) (by first | omega | (intro h; omega) | exact Or.inl rfl | exact Or.inr rfl) (by first | omega | (intro h; omega) | exact Or.inl rfl | exact Or.inr rfl) (by first | omega | (intro h; omega) | exact Or.inl rfl | exact Or.inr rfl) (by first | omega | (intro h; omega) | exact Or.inl rfl | exact Or.inr rfl) (by first | omega | (intro h; omega) | exact Or.inl rfl | exact Or.inr rfl))
  · have d_42 := iNle c_6
    exact (hp _ _ hR hf (by first | omega | (intro h; omega) | exact Or.inl rfl | exact Or.inr rfl) (by intro _; omega) (by first | omega | (intro h; omega) | exact Or.inl rfl | exact Or.inr rfl) (by first | omega | (intro h; omega) | exact Or.inl rfl | exact Or.inr rfl) (by first | omega | (intro h; omega) | exact Or.inl rfl | exact Or.inr rfl) (by first | omega | (intro h; omega) | exact Or.inl rfl | exact Or.inr rfl) (by first | omega | (intro h; omega) | exact Or.inl rfl | exact Or.inr rfl) (by first | omega | (intro h; omega) | exact Or.inl rfl | exact Or.inr rfl) (by first | omega | (intro h; omega) | exact Or.inl rfl | exact Or.inr rfl) (by first | omega | (intro h; omega) | exact Or.inl rfl | exact Or.inr rfl) (by first | omega | (intro h; omega) | exact Or.inl rfl | exact Or.inr rfl) (by first | omega | (intro h; omega) | exact Or.inl rfl | exact Or.inr rfl) (by first | omega | (intro h; omega) | exact Or.inl rfl | exact Or.inr rfl) (by first | omega | (intro h; omega) | exact Or.inl rfl | exact Or.inr rfl))
set_option maxHeartbeats 4000000 in
set_option maxRecDepth 20000 in
theorem y_Model_is {D : va_G} {cA : FieldType → ClassId} {b : Nat} {E : State → Prop} {R : qRg} {o n : Nat} {sh : Nat → qC} {Rf : Nat → Nat → Option Nat} {I0 : Nat → Nat → Int32} {L0 : Nat → Nat → Int64} {post : Option Value → qS → Prop} {p1 : Int32} (hok : q_ok (qGG D cA b E)) (hw : WfModel (qGG D cA b E) n sh Rf o) (ra : RAModel R o) (hR : RI R I0) (hp : ∀ (r : Int32) , (Bz r) → post (some (.int r)) (n, sh, Rf, I0, L0)) : Ev (qGG D cA b E) mModel_is 1 (0, 0) 0 (lv_args 0 [.ref o, .int p1]) [] (n, sh, Rf, I0, L0) post := by
  refine sModel_is_0 o n sh Rf I0 L0 post p1 hok hw ?_
  unfold fModel_is_0
  have l_1 : (6 : Int32).toInt = 6 := rfl
  refine ⟨fun c_2 => ?_, fun c_2 => ?_⟩
  · have d_3 := iNe c_2
    have l_4 : (0 : Int32).toInt = 0 := rfl
    exact (hp _ (Or.inl rfl))
  · have d_5 := iEq c_2
    have g_6 : (0 : Int) ≤ (I0 o 6).toInt ∧ (I0 o 6).toInt ≤ 1600 := hR.at0 ra 6 (by decide)
    refine y_Model_sign hok hw ra (by first | omega | (intro h; omega) | exact Or.inl rfl | exact Or.inr rfl) hR (fun r_7 u_8 u_9 => ⟨r_7, I0, L0, rfl, rfl, ?_⟩)
    refine ⟨fun c_10 => ?_, fun c_10 => ?_⟩
    · have d_11 := iNe c_10
      have l_12 : (0 : Int32).toInt = 0 := rfl
      exact (hp _ (Or.inl rfl))
    · have d_13 := iEq c_10
      have l_14 : (1 : Int32).toInt = 1 := rfl
      exact (hp _ (Or.inr rfl))
set_option maxHeartbeats 4000000 in
set_option maxRecDepth 20000 in
theorem y_Model_isWord {D : va_G} {cA : FieldType → ClassId} {b : Nat} {E : State → Prop} {R : qRg} {o n : Nat} {sh : Nat → qC} {Rf : Nat → Nat → Option Nat} {I0 : Nat → Nat → Int32} {L0 : Nat → Nat → Int64} {post : Option Value → qS → Prop} {p1 : Int64} (hok : q_ok (qGG D cA b E)) (hw : WfModel (qGG D cA b E) n sh Rf o) (ra : RAModel R o) (hR : RI R I0) (hp : ∀ (r : Int32) , (Bz r) → (Im (r.toInt ≠ 0) ((I0 o 8).toInt = 3)) → post (some (.int r)) (n, sh, Rf, I0, L0)) : Ev (qGG D cA b E) mModel_isWord 0 (0, 0) 0 (lv_args 0 [.ref o, .long p1]) [] (n, sh, Rf, I0, L0) post := by
  refine sModel_isWord_0 o n sh Rf I0 L0 post p1 hok hw ?_
  unfold fModel_isWord_0
  have l_1 : (3 : Int32).toInt = 3 := rfl
  refine ⟨fun c_2 => ?_, fun c_2 => ?_⟩
  · have d_3 := iNe c_2
    have l_4 : (0 : Int32).toInt = 0 := rfl
    exact (hp _ (Or.inl rfl) (by intro _; omega))
  · have d_5 := iEq c_2
    have l_6 : (0 : Int32).toInt = 0 := rfl
    refine ⟨fun c_7 => ?_, fun c_7 => ?_⟩
    · have d_8 := iNe c_7
      exact (hp _ (Or.inl rfl) (by intro _; omega))
    · have d_9 := iEq c_7
      have l_10 : (1 : Int32).toInt = 1 := rfl
      exact (hp _ (Or.inr rfl) (by intro _; omega))
set_option maxHeartbeats 4000000 in
set_option maxRecDepth 20000 in
theorem yModel_takeTape_25 {D : va_G} {cA : FieldType → ClassId} {b : Nat} {E : State → Prop} {R : qRg} {o n : Nat} {sh : Nat → qC} {Rf : Nat → Nat → Option Nat} {I0 : Nat → Nat → Int32} {L0 : Nat → Nat → Int64} {post : Option Value → qS → Prop} {p1 : Int32} (hok : q_ok (qGG D cA b E)) (hw : WfModel (qGG D cA b E) n sh Rf o) (ra : RAModel R o) (hq0 : p1 = 0 ∨ p1 = 1) (hp : ∀ (I' : Nat → Nat → Int32) (L' : Nat → Nat → Int64), RI R I' → Fm (fun c => c = o ∨ c = o + 2) I0 I' → ((I' o 7).toInt = 0) → ((I' o 4).toInt = 0) → ((I' o 3).toInt = (I0 o 2).toInt) → ((I' o 2).toInt = 0) → post none (n, sh, Rf, I', L')) : ∀ (k : Nat) {x1 : Int32} {x2 : Int32} {I : Nat → Nat → Int32} {L : Nat → Nat → Int64}, RI R I → Fm (fun c => c = o ∨ c = o + 2) I0 I → ((0 : Int) ≤ x2.toInt ∧ x2.toInt ≤ 1600) → ((I o 4).toInt = 0) → ((I o 3).toInt = (I0 o 2).toInt) → ((I o 2).toInt = (I0 o 2).toInt) → (1600 - x2.toInt).toNat < k → Ev (qGG D cA b E) mModel_takeTape 0 (0, 0) 25 [(0, .ref o), (1, .int x1), (2, .int x2)] [] (n, sh, Rf, I, L) post := by
  intro k
  induction k with
  | zero =>
    intro x1 x2 I L hR hf hi0 hi1 hi2 hi3 hm
    exact absurd hm (Nat.not_lt_zero _)
  | succ k ih =>
    intro x1 x2 I L hR hf hi0 hi1 hi2 hi3 hm
    have g_1 : (0 : Int) ≤ (I o 2).toInt ∧ (I o 2).toInt ≤ 1600 := hR.at0 ra 2 (by decide)
    have g_2 : (0 : Int) ≤ (I o 3).toInt ∧ (I o 3).toInt ≤ 1600 := hR.at0 ra 3 (by decide)
    have g_3 : (0 : Int) ≤ (I o 7).toInt ∧ (I o 7).toInt ≤ 1601 := hR.at0 ra 7 (by decide)
    refine sModel_takeTape_25 o n sh Rf I L post x1 x2 hok hw ?_
    unfold fModel_takeTape_25
    have g_4 : (0 : Int) ≤ (I o 3).toInt ∧ (I o 3).toInt ≤ 1600 := hR.at0 ra 3 (by decide)
    refine ⟨fun c_5 => ?_, fun c_5 => ?_⟩
    · have d_6 := iLe c_5
      have l_7 : (0 : Int32).toInt = 0 := rfl
      refine fun I_8 e_9 => ?_
      have hR_10 : RI R I_8 := hR.up0 ra (by decide) e_9 (show (0 : Int) ≤ (0 : Int32).toInt by omega) (show (0 : Int32).toInt ≤ (1600 : Int) by omega)
      have hf_11 : Fm (fun c => c = o ∨ c = o + 2) I0 I_8 := hf.set (by first | rfl | omega | (dsimp only; omega)) e_9
      have t_12 : (I_8 o 2).toInt = (0 : Int32).toInt := by rw [← e_9, q_u_at]
      have t_13 : (I_8 o 3).toInt = (I o 3).toInt := by rw [← e_9, q_u_k (by decide)]
      have t_14 : (I_8 o 4).toInt = (I o 4).toInt := by rw [← e_9, q_u_k (by decide)]
      have t_15 : (I_8 o 7).toInt = (I o 7).toInt := by rw [← e_9, q_u_k (by decide)]
      refine fun I_16 e_17 => ?_
      have hR_18 : RI R I_16 := hR_10.up0 ra (by decide) e_17 (show (0 : Int) ≤ (0 : Int32).toInt by omega) (show (0 : Int32).toInt ≤ (1601 : Int) by omega)
      have hf_19 : Fm (fun c => c = o ∨ c = o + 2) I0 I_16 := hf_11.set (by first | rfl | omega | (dsimp only; omega)) e_17
      have t_20 : (I_16 o 2).toInt = (I_8 o 2).toInt := by rw [← e_17, q_u_k (by decide)]
      have t_21 : (I_16 o 3).toInt = (I_8 o 3).toInt := by rw [← e_17, q_u_k (by decide)]
      have t_22 : (I_16 o 4).toInt = (I_8 o 4).toInt := by rw [← e_17, q_u_k (by decide)]
      have t_23 : (I_16 o 7).toInt = (0 : Int32).toInt := by rw [← e_17, q_u_at]
      exact (hp _ _ hR_18 hf_19 (by first | omega | (intro h; omega) | exact Or.inl rfl | exact Or.inr rfl) (by first | omega | (intro h; omega) | exact Or.inl rfl | exact Or.inr rfl) (by first | omega | (intro h; omega) | exact Or.inl rfl | exact Or.inr rfl) (by first | omega | (intro h; omega) | exact Or.inl rfl | exact Or.inr rfl))
    · have d_24 := iNle c_5
      refine ⟨tIn (by omega) (by omega), ?_⟩
      refine ⟨tIn (by omega) (by omega), fun I_25 e_26 => ?_⟩
      have hR_27 : RI R I_25 := hR.up ra 2 (by decide) e_26 (i_lo _) (i_hi _)
      have hf_28 : Fm (fun c => c = o ∨ c = o + 2) I0 I_25 := hf.set (by first | rfl | omega | (dsimp only; omega)) e_26
      have t_29 : (I_25 o 2).toInt = (I o 2).toInt := by rw [← e_26, q_u_ne (by omega)]
      have t_30 : (I_25 o 3).toInt = (I o 3).toInt := by rw [← e_26, q_u_ne (by omega)]
      have t_31 : (I_25 o 4).toInt = (I o 4).toInt := by rw [← e_26, q_u_ne (by omega)]
      have t_32 : (I_25 o 7).toInt = (I o 7).toInt := by rw [← e_26, q_u_ne (by omega)]
      have a_34 : (x2 + Int32.ofInt 1).toInt = x2.toInt + (1) := tIc (by omega) (by omega) (by decide) (by decide)
      generalize ez_33 : (x2 + Int32.ofInt 1) = z_33 at a_34 ⊢
      exact ih hR_27 hf_28 (by first | omega | (intro h; omega) | exact Or.inl rfl | exact Or.inr rfl) (by first | omega | (intro h; omega) | exact Or.inl rfl | exact Or.inr rfl) (by first | omega | (intro h; omega) | exact Or.inl rfl | exact Or.inr rfl) (by first | omega | (intro h; omega) | exact Or.inl rfl | exact Or.inr rfl) (by omega)
set_option maxHeartbeats 4000000 in
set_option maxRecDepth 20000 in
theorem y_Model_takeTape {D : va_G} {cA : FieldType → ClassId} {b : Nat} {E : State → Prop} {R : qRg} {o n : Nat} {sh : Nat → qC} {Rf : Nat → Nat → Option Nat} {I0 : Nat → Nat → Int32} {L0 : Nat → Nat → Int64} {post : Option Value → qS → Prop} {p1 : Int32} (hok : q_ok (qGG D cA b E)) (hw : WfModel (qGG D cA b E) n sh Rf o) (ra : RAModel R o) (hq0 : p1 = 0 ∨ p1 = 1) (hR : RI R I0) (hp : ∀ (I' : Nat → Nat → Int32) (L' : Nat → Nat → Int64), RI R I' → Fm (fun c => c = o ∨ c = o + 2) I0 I' → ((I' o 7).toInt = 0) → ((I' o 4).toInt = 0) → ((I' o 3).toInt = (I0 o 2).toInt) → ((I' o 2).toInt = 0) → post none (n, sh, Rf, I', L')) : Ev (qGG D cA b E) mModel_takeTape 0 (0, 0) 0 (lv_args 0 [.ref o, .int p1]) [] (n, sh, Rf, I0, L0) post := by
  have hf : Fm (fun c => c = o ∨ c = o + 2) I0 I0 := Fm.rf
  have g_35 : (0 : Int) ≤ (I0 o 2).toInt ∧ (I0 o 2).toInt ≤ 1600 := hR.at0 ra 2 (by decide)
  have g_36 : (0 : Int) ≤ (I0 o 3).toInt ∧ (I0 o 3).toInt ≤ 1600 := hR.at0 ra 3 (by decide)
  have g_37 : (0 : Int) ≤ (I0 o 7).toInt ∧ (I0 o 7).toInt ≤ 1601 := hR.at0 ra 7 (by decide)
  refine sModel_takeTape_0 o n sh Rf I0 L0 post p1 hok hw ?_
  unfold fModel_takeTape_0
  refine ⟨hq0, fun I_38 e_39 => ?_⟩
  have hR_40 : RI R I_38 := hR.up0 ra (by decide) e_39 (i_lo _) (i_hi _)
  have hf_41 : Fm (fun c => c = o ∨ c = o + 2) I0 I_38 := hf.set (by first | rfl | omega | (dsimp only; omega)) e_39
  have t_42 : (I_38 o 2).toInt = (I0 o 2).toInt := by rw [← e_39, q_u_k (by decide)]
  have t_43 : (I_38 o 3).toInt = (I0 o 3).toInt := by rw [← e_39, q_u_k (by decide)]
  have t_44 : (I_38 o 4).toInt = (I0 o 4).toInt := by rw [← e_39, q_u_k (by decide)]
  have t_45 : (I_38 o 7).toInt = (I0 o 7).toInt := by rw [← e_39, q_u_k (by decide)]
  have l_46 : (0 : Int32).toInt = 0 := rfl
  refine fun I_47 e_48 => ?_
  have hR_49 : RI R I_47 := hR_40.up0 ra (by decide) e_48 (i_lo _) (i_hi _)
  have hf_50 : Fm (fun c => c = o ∨ c = o + 2) I0 I_47 := hf_41.set (by first | rfl | omega | (dsimp only; omega)) e_48
  have t_51 : (I_47 o 2).toInt = (I_38 o 2).toInt := by rw [← e_48, q_u_k (by decide)]
  have t_52 : (I_47 o 3).toInt = (I_38 o 3).toInt := by rw [← e_48, q_u_k (by decide)]
  have t_53 : (I_47 o 4).toInt = (0 : Int32).toInt := by rw [← e_48, q_u_at]
  have t_54 : (I_47 o 7).toInt = (I_38 o 7).toInt := by rw [← e_48, q_u_k (by decide)]
  have l_55 : (-1 : Int32).toInt = -1 := rfl
  refine fun I_56 e_57 => ?_
  have hR_58 : RI R I_56 := hR_49.up0 ra (by decide) e_57 (i_lo _) (i_hi _)
  have hf_59 : Fm (fun c => c = o ∨ c = o + 2) I0 I_56 := hf_50.set (by first | rfl | omega | (dsimp only; omega)) e_57
  have t_60 : (I_56 o 2).toInt = (I_47 o 2).toInt := by rw [← e_57, q_u_k (by decide)]
  have t_61 : (I_56 o 3).toInt = (I_47 o 3).toInt := by rw [← e_57, q_u_k (by decide)]
  have t_62 : (I_56 o 4).toInt = (I_47 o 4).toInt := by rw [← e_57, q_u_k (by decide)]
  have t_63 : (I_56 o 7).toInt = (I_47 o 7).toInt := by rw [← e_57, q_u_k (by decide)]
  have g_64 : (0 : Int) ≤ (I_56 o 2).toInt ∧ (I_56 o 2).toInt ≤ 1600 := hR_58.at0 ra 2 (by decide)
  refine fun I_65 e_66 => ?_
  have hR_67 : RI R I_65 := hR_58.up0 ra (by decide) e_66 (show (0 : Int) ≤ (I_56 o 2).toInt by omega) (show (I_56 o 2).toInt ≤ (1600 : Int) by omega)
  have hf_68 : Fm (fun c => c = o ∨ c = o + 2) I0 I_65 := hf_59.set (by first | rfl | omega | (dsimp only; omega)) e_66
  have t_69 : (I_65 o 2).toInt = (I_56 o 2).toInt := by rw [← e_66, q_u_k (by decide)]
  have t_70 : (I_65 o 3).toInt = (I_56 o 2).toInt := by rw [← e_66, q_u_at]
  have t_71 : (I_65 o 4).toInt = (I_56 o 4).toInt := by rw [← e_66, q_u_k (by decide)]
  have t_72 : (I_65 o 7).toInt = (I_56 o 7).toInt := by rw [← e_66, q_u_k (by decide)]
  exact yModel_takeTape_25 (I0 := I0) (L0 := L0) (p1 := p1) hok hw ra hq0 hp  _ hR_67 hf_68 (by first | omega | (intro h; omega) | exact Or.inl rfl | exact Or.inr rfl) (by first | omega | (intro h; omega) | exact Or.inl rfl | exact Or.inr rfl) (by first | omega | (intro h; omega) | exact Or.inl rfl | exact Or.inr rfl) (by first | omega | (intro h; omega) | exact Or.inl rfl | exact Or.inr rfl) (Nat.lt_succ_self _)
