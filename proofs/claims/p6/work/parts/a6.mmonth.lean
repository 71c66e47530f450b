/-! Safety of the reference, the pieces of a MONTH: by program (spec.py). -/
set_option maxHeartbeats 4000000 in
set_option maxRecDepth 20000 in
theorem y_Model_waits2 {D : va_G} {cA : FieldType → ClassId} {b : Nat} {E : State → Prop} {R : qRg} {o n : Nat} {sh : Nat → qC} {Rf : Nat → Nat → Option Nat} {I0 : Nat → Nat → Int32} {L0 : Nat → Nat → Int64} {post : Option Value → qS → Prop} {p1 : Int32} (hok : q_ok (qGG D cA b E)) (hw : WfModel (qGG D cA b E) n sh Rf o) (ra : RAModel R o) (hq0 : (0 : Int) ≤ p1.toInt ∧ p1.toInt ≤ 1999) (hR : RI R I0) (hp : ∀ (r : Int32) , (Bz r) → (Im (r.toInt ≠ 0) ((I0 (o + 56) p1.toNatClampNeg).toInt < 0 ∧ (I0 (o + 66) p1.toNatClampNeg).toInt = 0)) → post (some (.int r)) (n, sh, Rf, I0, L0)) : Ev (qGG D cA b E) mModel_waits 0 (0, 0) 0 (lv_args 0 [.ref o, .int p1]) [] (n, sh, Rf, I0, L0) post := by
  refine sModel_waits_0 o n sh Rf I0 L0 post p1 hok hw ?_
  unfold fModel_waits_0
  refine ⟨tIn (by omega) (by omega), ?_⟩
  have l_1 : (0 : Int32).toInt = 0 := rfl
  refine ⟨fun c_2 => ?_, fun c_2 => ?_⟩
  · have d_3 := iLe c_2
    exact (hp _ (Or.inl rfl) (by intro _; omega))
  · have d_4 := iNle c_2
    refine ⟨tIn (by omega) (by omega), ?_⟩
    refine ⟨fun c_5 => ?_, fun c_5 => ?_⟩
    · have d_6 := iNe c_5
      exact (hp _ (Or.inl rfl) (by intro _; omega))
    · have d_7 := iEq c_5
      have l_8 : (1 : Int32).toInt = 1 := rfl
      exact (hp _ (Or.inr rfl) (by intro _; omega))
set_option maxHeartbeats 4000000 in
set_option maxRecDepth 20000 in
theorem yModel_forge_22 {D : va_G} {cA : FieldType → ClassId} {b : Nat} {E : State → Prop} {R : qRg} {o n : Nat} {sh : Nat → qC} {Rf : Nat → Nat → Option Nat} {I0 : Nat → Nat → Int32} {L0 : Nat → Nat → Int64} {post : Option Value → qS → Prop} {p1 : Int32} (hok : q_ok (qGG D cA b E)) (hw : WfModel (qGG D cA b E) n sh Rf o) (ra : RAModel R o) (hZ : Fz R I0 o wModel_forge) (hR0 : RI R I0) (hq0 : (0 : Int) ≤ p1.toInt ∧ p1.toInt ≤ 1999) (hq1 : Pap I0 o) (hp : ∀ (I' : Nat → Nat → Int32) (L' : Nat → Nat → Int64), RI R I' → Fm (fun c => c = o + 66) I0 I' → (Pap I' o) → post none (n, sh, Rf, I', L')) : ∀ (k : Nat) {x1 : Int32} {x2 : Int32} {I : Nat → Nat → Int32} {L : Nat → Nat → Int64}, RI R I → Fm (fun c => c = o + 66) I0 I → ((0 : Int) ≤ x2.toInt ∧ x2.toInt ≤ 40) → ((0 : Int) ≤ x1.toInt ∧ x1.toInt ≤ 1999) → (Pap I o) → (40 - x2.toInt).toNat < k → Ev (qGG D cA b E) mModel_forge 1 (0, 0) 2 [(0, .ref o), (1, .int x1), (2, .int x2)] [] (n, sh, Rf, I, L) post := by
  intro k
  induction k with
  | zero =>
    intro x1 x2 I L hR hf hi0 hi1 hi2 hm
    exact absurd hm (Nat.not_lt_zero _)
  | succ k ih =>
    intro x1 x2 I L hR hf hi0 hi1 hi2 hm
    refine sModel_forge_2 o n sh Rf I L post x1 x2 hok hw ?_
    unfold fModel_forge_2
    have g_1 : (0 : Int) ≤ (I o 67).toInt ∧ (I o 67).toInt ≤ 40 := hR.at0 ra 67 (by decide)
    refine ⟨fun c_2 => ?_, fun c_2 => ?_⟩
    · have d_3 := iLe c_2
      exact (hp _ _ hR hf  hi2)
    · have d_4 := iNle c_2
      have l_5 : (1 : Int32).toInt = 1 := rfl
      refine y_Model_counts hok hw ra (by first | omega | (intro h; omega) | exact Or.inl rfl | exact Or.inr rfl) hR (fun r_6 u_7 u_8 => ⟨r_6, I, L, rfl, rfl, ?_⟩)
      have b_9 : 0 ≤ r_6.toInt ∧ r_6.toInt ≤ 1 := u_7.rg
      have l_10 : (0 : Int32).toInt = 0 := rfl
      refine ⟨fun c_11 => ?_, fun c_11 => ?_⟩
      · have d_12 := iEq c_11
        unfold fModel_forge_58
        have a_14 : (x2 + Int32.ofInt 1).toInt = x2.toInt + (1) := tIc (by omega) (by omega) (by decide) (by decide)
        generalize ez_13 : (x2 + Int32.ofInt 1) = z_13 at a_14 ⊢
        exact ih hR hf (by first | omega | (intro h; omega) | exact Or.inl rfl | exact Or.inr rfl) (by first | omega | (intro h; omega) | exact Or.inl rfl | exact Or.inr rfl) hi2 (by omega)
      · have d_15 := iNe c_11
        refine ⟨tIn (by omega) (by omega), ?_⟩
        refine ⟨fun c_16 => ?_, fun c_16 => ?_⟩
        · have d_17 := iNe c_16
          unfold fModel_forge_58
          have a_19 : (x2 + Int32.ofInt 1).toInt = x2.toInt + (1) := tIc (by omega) (by omega) (by decide) (by decide)
          generalize ez_18 : (x2 + Int32.ofInt 1) = z_18 at a_19 ⊢
          exact ih hR hf (by first | omega | (intro h; omega) | exact Or.inl rfl | exact Or.inr rfl) (by first | omega | (intro h; omega) | exact Or.inl rfl | exact Or.inr rfl) hi2 (by omega)
        · have d_20 := iEq c_16
          refine ⟨tIn (by omega) (by omega), ?_⟩
          have g_21 : (0 : Int) ≤ (I o 57).toInt ∧ (I o 57).toInt ≤ 240 := hR.at0 ra 57 (by decide)
          refine ⟨fun c_22 => ?_, fun c_22 => ?_⟩
          · have d_23 := iLt c_22
            unfold fModel_forge_58
            have a_25 : (x2 + Int32.ofInt 1).toInt = x2.toInt + (1) := tIc (by omega) (by omega) (by decide) (by decide)
            generalize ez_24 : (x2 + Int32.ofInt 1) = z_24 at a_25 ⊢
            exact ih hR hf (by first | omega | (intro h; omega) | exact Or.inl rfl | exact Or.inr rfl) (by first | omega | (intro h; omega) | exact Or.inl rfl | exact Or.inr rfl) hi2 (by omega)
          · have d_26 := iNlt c_22
            refine ⟨tIn (by omega) (by omega), ?_⟩
            refine ⟨fun c_27 => ?_, fun c_27 => ?_⟩
            · have d_28 := iLe c_27
              unfold fModel_forge_58
              have a_30 : (x2 + Int32.ofInt 1).toInt = x2.toInt + (1) := tIc (by omega) (by omega) (by decide) (by decide)
              generalize ez_29 : (x2 + Int32.ofInt 1) = z_29 at a_30 ⊢
              exact ih hR hf (by first | omega | (intro h; omega) | exact Or.inl rfl | exact Or.inr rfl) (by first | omega | (intro h; omega) | exact Or.inl rfl | exact Or.inr rfl) hi2 (by omega)
            · have d_31 := iNle c_27
              refine ⟨tIn (by omega) (by omega), fun I_32 e_33 => ?_⟩
              have hR_34 : RI R I_32 := hR.up ra 66 (by decide) (Or.inl rfl) e_33 (i_lo _) (i_hi _)
              have hf_35 : Fm (fun c => c = o + 66) I0 I_32 := hf.set (by first | rfl | omega | (dsimp only; omega)) e_33
              have t_36 : (I_32 o 67).toInt = (I o 67).toInt := by rw [← e_33, q_u_ne (by omega)]
              have t_37 : (I_32 o 57).toInt = (I o 57).toInt := by rw [← e_33, q_u_ne (by omega)]
              have k_38 : Pap I_32 o := hi2.put66 e_33 (by first | exact Or.inl (by have cl := tCl (x := x1) (by omega); omega) | exact Or.inr (by decide))
              unfold fModel_forge_58
              have a_40 : (x2 + Int32.ofInt 1).toInt = x2.toInt + (1) := tIc (by omega) (by omega) (by decide) (by decide)
              generalize ez_39 : (x2 + Int32.ofInt 1) = z_39 at a_40 ⊢
              exact ih hR_34 hf_35 (by first | omega | (intro h; omega) | exact Or.inl rfl | exact Or.inr rfl) (by first | omega | (intro h; omega) | exact Or.inl rfl | exact Or.inr rfl) k_38 (by omega)
set_option maxHeartbeats 4000000 in
set_option maxRecDepth 20000 in
theorem yc_Model_forge2 {D : va_G} {cA : FieldType → ClassId} {b : Nat} {E : State → Prop} {R : qRg} {o n : Nat} {sh : Nat → qC} {Rf : Nat → Nat → Option Nat} {I0 : Nat → Nat → Int32} {L0 : Nat → Nat → Int64} {post : Option Value → qS → Prop} {p1 : Int32} (hok : q_ok (qGG D cA b E)) (hw : WfModel (qGG D cA b E) n sh Rf o) (ra : RAModel R o) (hZ : Fz R I0 o wModel_forge) (hR0 : RI R I0) (hq0 : (0 : Int) ≤ p1.toInt ∧ p1.toInt ≤ 1999) (hq1 : Pap I0 o) (hR : RI R I0) (hp : ∀ (I' : Nat → Nat → Int32) (L' : Nat → Nat → Int64), RI R I' → Fm (fun c => c = o + 66) I0 I' → (Pap I' o) → post none (n, sh, Rf, I', L')) : Ev (qGG D cA b E) mModel_forge 1 (0, 0) 0 (lv_args 0 [.ref o, .int p1]) [] (n, sh, Rf, I0, L0) post := by
  have hf : Fm (fun c => c = o + 66) I0 I0 := Fm.rf
  refine sModel_forge_0 o n sh Rf I0 L0 post p1 hok hw ?_
  unfold fModel_forge_0
  have l_41 : (0 : Int32).toInt = 0 := rfl
  exact yModel_forge_22 (I0 := I0) (L0 := L0) (p1 := p1) hok hw ra hZ hR0 hq0 hq1 hp  _ hR hf (by first | omega | (intro h; omega) | exact Or.inl rfl | exact Or.inr rfl) (by first | omega | (intro h; omega) | exact Or.inl rfl | exact Or.inr rfl) hq1 (Nat.lt_succ_self _)
theorem y_Model_forge2 {D : va_G} {cA : FieldType → ClassId} {b : Nat} {E : State → Prop} {R : qRg} {o n : Nat} {sh : Nat → qC} {Rf : Nat → Nat → Option Nat} {I0 : Nat → Nat → Int32} {L0 : Nat → Nat → Int64} {post : Option Value → qS → Prop} {p1 : Int32} (hok : q_ok (qGG D cA b E)) (hw : WfModel (qGG D cA b E) n sh Rf o) (ra : RAModel R o) (hq0 : (0 : Int) ≤ p1.toInt ∧ p1.toInt ≤ 1999) (hq1 : Pap I0 o) (hR : RI R I0) (hp : ∀ (I' : Nat → Nat → Int32) (L' : Nat → Nat → Int64), RI R I' → Fm (fun c => c = o + 66) I0 I' → Kp wModel_forge I0 I' o → (Pap I' o) → post none (n, sh, Rf, I', L')) : Ev (qGG D cA b E) mModel_forge 1 (0, 0) 0 (lv_args 0 [.ref o, .int p1]) [] (n, sh, Rf, I0, L0) post :=
  yc_Model_forge2 (R := fzR R I0 o wModel_forge) hok hw (fzA ra hR _) fzZ (fzI hR) hq0 hq1 (fzI hR) (fun I' L' h1 h2 u0 => hp I' L' (fzB hR h1) h2 (fzP h1) u0)
set_option maxHeartbeats 4000000 in
set_option maxRecDepth 20000 in
theorem yc_Model_give2 {D : va_G} {cA : FieldType → ClassId} {b : Nat} {E : State → Prop} {R : qRg} {o n : Nat} {sh : Nat → qC} {Rf : Nat → Nat → Option Nat} {I0 : Nat → Nat → Int32} {L0 : Nat → Nat → Int64} {post : Option Value → qS → Prop} {p1 : Int32} {p2 : Int32} {p3 : Int32} {p4 : Int32} {p5 : Int32} (hok : q_ok (qGG D cA b E)) (hw : WfModel (qGG D cA b E) n sh Rf o) (ra : RAModel R o) (hz114 : R.2 114 = true) (hZ : Fz R I0 o wModel_give) (hR0 : RI R I0) (hq0 : (0 : Int) ≤ p1.toInt ∧ p1.toInt ≤ 5) (hq1 : (I0 o 104).toInt ≤ 1999) (hq2 : Pap I0 o) (hR : RI R I0) (hp : ∀ (I' : Nat → Nat → Int32) (L' : Nat → Nat → Int64), RI R I' → Fm (fun c => c = o ∨ (o + 51 ≤ c ∧ c < o + 57) ∨ c = o + 65 ∨ c = o + 66) I0 I' → ((I0 o 104).toInt ≤ (I' o 104).toInt) → ((I' o 104).toInt ≤ (I0 o 104).toInt + 1) → (cnt pD (I' (o + 56)) (I' o 104).toInt.toNat = cnt pD (I0 (o + 56)) (I0 o 104).toInt.toNat) → (Pap I' o) → post none (n, sh, Rf, I', L')) : Ev (qGG D cA b E) mModel_give 2 (0, 0) 0 (lv_args 0 [.ref o, .int p1, .int p2, .int p3, .int p4, .int p5]) [] (n, sh, Rf, I0, L0) post := by
  have hf : Fm (fun c => c = o ∨ (o + 51 ≤ c ∧ c < o + 57) ∨ c = o + 65 ∨ c = o + 66) I0 I0 := Fm.rf
  have g_1 : (0 : Int) ≤ (I0 o 104).toInt ∧ (I0 o 104).toInt ≤ 2000 := hR.at0 ra 104 (by decide)
  refine sModel_give_0 o n sh Rf I0 L0 post p1 p2 p3 p4 p5 hok hw ?_
  unfold fModel_give_0
  have l_2 : (0 : Int32).toInt = 0 := rfl
  refine ⟨fun c_3 => ?_, fun c_3 => ?_⟩
  · have d_4 := iNe c_3
    have g_5 : (0 : Int) ≤ (I0 o 104).toInt ∧ (I0 o 104).toInt ≤ 2000 := hR.at0 ra 104 (by decide)
    refine ⟨tIn (by omega) (by omega), fun I_6 e_7 => ?_⟩
    have hR_8 : RI R I_6 := hR.up ra 51 (by decide) (Or.inl rfl) e_7 (show (-1 : Int) ≤ p1.toInt by omega) (show p1.toInt ≤ (5 : Int) by omega)
    have hf_9 : Fm (fun c => c = o ∨ (o + 51 ≤ c ∧ c < o + 57) ∨ c = o + 65 ∨ c = o + 66) I0 I_6 := hf.set (by first | rfl | omega | (dsimp only; omega)) e_7
    have t_10 : (I_6 o 104).toInt = (I0 o 104).toInt := by rw [← e_7, q_u_ne (by omega)]
    have k_11 : Pap I_6 o := hq2.put51 e_7 (by first | exact Or.inl (by have cl := tCl (x := (I0 o 104)) (by omega); omega) | exact Or.inr (by decide))
    have x_12 : I_6 (o + 51) ((I0 o 104) : Int32).toNatClampNeg = p1 := by rw [← e_7, q_u_at]
    have w_13 : I_6 (o + 56) = I0 (o + 56) := by rw [← e_7, q_u_ne (by omega)]
    refine ⟨tIn (by omega) (by omega), fun I_14 e_15 => ?_⟩
    have hR_16 : RI R I_14 := hR_8.up ra 52 (by decide) (Or.inl rfl) e_15 (i_lo _) (i_hi _)
    have hf_17 : Fm (fun c => c = o ∨ (o + 51 ≤ c ∧ c < o + 57) ∨ c = o + 65 ∨ c = o + 66) I0 I_14 := hf_9.set (by first | rfl | omega | (dsimp only; omega)) e_15
    have t_18 : (I_14 o 104).toInt = (I_6 o 104).toInt := by rw [← e_15, q_u_ne (by omega)]
    have k_19 : Pap I_14 o := k_11.fr (by rw [← e_15]; exact q_u_ne (by omega)) (by rw [← e_15]; exact q_u_ne (by omega)) (by rw [← e_15]; exact q_u_ne (by omega)) (by rw [← e_15, q_u_ne (by omega)])
    have x_20 : I_14 (o + 51) ((I0 o 104) : Int32).toNatClampNeg = p1 := by rw [← e_15, q_u_ne (by omega)]; exact x_12
    have w_21 : I_14 (o + 56) = I0 (o + 56) := by rw [← e_15, q_u_ne (by omega)]; exact w_13
    refine ⟨tIn (by omega) (by omega), fun I_22 e_23 => ?_⟩
    have hR_24 : RI R I_22 := hR_16.up ra 53 (by decide) (Or.inl rfl) e_23 (i_lo _) (i_hi _)
    have hf_25 : Fm (fun c => c = o ∨ (o + 51 ≤ c ∧ c < o + 57) ∨ c = o + 65 ∨ c = o + 66) I0 I_22 := hf_17.set (by first | rfl | omega | (dsimp only; omega)) e_23
    have t_26 : (I_22 o 104).toInt = (I_14 o 104).toInt := by rw [← e_23, q_u_ne (by omega)]
    have k_27 : Pap I_22 o := k_19.fr (by rw [← e_23]; exact q_u_ne (by omega)) (by rw [← e_23]; exact q_u_ne (by omega)) (by rw [← e_23]; exact q_u_ne (by omega)) (by rw [← e_23, q_u_ne (by omega)])
    have x_28 : I_22 (o + 51) ((I0 o 104) : Int32).toNatClampNeg = p1 := by rw [← e_23, q_u_ne (by omega)]; exact x_20
    have w_29 : I_22 (o + 56) = I0 (o + 56) := by rw [← e_23, q_u_ne (by omega)]; exact w_21
    have g_30 : (0 : Int) ≤ (I_22 o 57).toInt ∧ (I_22 o 57).toInt ≤ 240 := hR_24.at0 ra 57 (by decide)
    refine ⟨tIn (by omega) (by omega), fun I_31 e_32 => ?_⟩
    have hR_33 : RI R I_31 := hR_24.up ra 54 (by decide) (Or.inl rfl) e_32 (i_lo _) (i_hi _)
    have hf_34 : Fm (fun c => c = o ∨ (o + 51 ≤ c ∧ c < o + 57) ∨ c = o + 65 ∨ c = o + 66) I0 I_31 := hf_25.set (by first | rfl | omega | (dsimp only; omega)) e_32
    have t_35 : (I_31 o 104).toInt = (I_22 o 104).toInt := by rw [← e_32, q_u_ne (by omega)]
    have t_36 : (I_31 o 57).toInt = (I_22 o 57).toInt := by rw [← e_32, q_u_ne (by omega)]
    have k_37 : Pap I_31 o := k_27.fr (by rw [← e_32]; exact q_u_ne (by omega)) (by rw [← e_32]; exact q_u_ne (by omega)) (by rw [← e_32]; exact q_u_ne (by omega)) (by rw [← e_32, q_u_ne (by omega)])
    have x_38 : I_31 (o + 51) ((I0 o 104) : Int32).toNatClampNeg = p1 := by rw [← e_32, q_u_ne (by omega)]; exact x_28
    have w_39 : I_31 (o + 56) = I0 (o + 56) := by rw [← e_32, q_u_ne (by omega)]; exact w_29
    refine ⟨tIn (by omega) (by omega), fun I_40 e_41 => ?_⟩
    have hR_42 : RI R I_40 := hR_33.up ra 55 (by decide) (Or.inl rfl) e_41 (i_lo _) (i_hi _)
    have hf_43 : Fm (fun c => c = o ∨ (o + 51 ≤ c ∧ c < o + 57) ∨ c = o + 65 ∨ c = o + 66) I0 I_40 := hf_34.set (by first | rfl | omega | (dsimp only; omega)) e_41
    have t_44 : (I_40 o 104).toInt = (I_31 o 104).toInt := by rw [← e_41, q_u_ne (by omega)]
    have t_45 : (I_40 o 57).toInt = (I_31 o 57).toInt := by rw [← e_41, q_u_ne (by omega)]
    have k_46 : Pap I_40 o := k_37.fr (by rw [← e_41]; exact q_u_ne (by omega)) (by rw [← e_41]; exact q_u_ne (by omega)) (by rw [← e_41]; exact q_u_ne (by omega)) (by rw [← e_41, q_u_ne (by omega)])
    have x_47 : I_40 (o + 51) ((I0 o 104) : Int32).toNatClampNeg = p1 := by rw [← e_41, q_u_ne (by omega)]; exact x_38
    have w_48 : I_40 (o + 56) = I0 (o + 56) := by rw [← e_41, q_u_ne (by omega)]; exact w_39
    have l_49 : (-1 : Int32).toInt = -1 := rfl
    refine ⟨tIn (by omega) (by omega), fun I_50 e_51 => ?_⟩
    have hR_52 : RI R I_50 := hR_42.up ra 56 (by decide) (Or.inl rfl) e_51 (i_lo _) (i_hi _)
    have hf_53 : Fm (fun c => c = o ∨ (o + 51 ≤ c ∧ c < o + 57) ∨ c = o + 65 ∨ c = o + 66) I0 I_50 := hf_43.set (by first | rfl | omega | (dsimp only; omega)) e_51
    have t_54 : (I_50 o 104).toInt = (I_40 o 104).toInt := by rw [← e_51, q_u_ne (by omega)]
    have t_55 : (I_50 o 57).toInt = (I_40 o 57).toInt := by rw [← e_51, q_u_ne (by omega)]
    have k_56 : Pap I_50 o := k_46.put56 e_51 (by first | exact Or.inl (by have cl := tCl (x := (I0 o 104)) (by omega); omega) | exact Or.inr (by decide))
    have x_57 : I_50 (o + 51) ((I0 o 104) : Int32).toNatClampNeg = p1 := by rw [← e_51, q_u_ne (by omega)]; exact x_47
    have w_58 : I_50 (o + 56) = rU (I0 (o + 56)) (I0 o 104).toNatClampNeg ((-1) : Int32) := by rw [rU_q e_51 (m := (I0 o 104).toNatClampNeg) (clEq (by omega)), w_48]
    refine ⟨tIn (by omega) (by omega), fun I_59 e_60 => ?_⟩
    have hR_61 : RI R I_59 := hR_52.up ra 65 (by decide) (Or.inl rfl) e_60 (i_lo _) (i_hi _)
    have hf_62 : Fm (fun c => c = o ∨ (o + 51 ≤ c ∧ c < o + 57) ∨ c = o + 65 ∨ c = o + 66) I0 I_59 := hf_53.set (by first | rfl | omega | (dsimp only; omega)) e_60
    have t_63 : (I_59 o 104).toInt = (I_50 o 104).toInt := by rw [← e_60, q_u_ne (by omega)]
    have t_64 : (I_59 o 57).toInt = (I_50 o 57).toInt := by rw [← e_60, q_u_ne (by omega)]
    have k_65 : Pap I_59 o := k_56.fr (by rw [← e_60]; exact q_u_ne (by omega)) (by rw [← e_60]; exact q_u_ne (by omega)) (by rw [← e_60]; exact q_u_ne (by omega)) (by rw [← e_60, q_u_ne (by omega)])
    have x_66 : I_59 (o + 51) ((I0 o 104) : Int32).toNatClampNeg = p1 := by rw [← e_60, q_u_ne (by omega)]; exact x_57
    have w_67 : I_59 (o + 56) = rU (I0 (o + 56)) (I0 o 104).toNatClampNeg ((-1) : Int32) := by rw [← e_60, q_u_ne (by omega)]; exact w_58
    refine ⟨tIn (by omega) (by omega), fun I_68 e_69 => ?_⟩
    have hR_70 : RI R I_68 := hR_61.up ra 66 (by decide) (Or.inl rfl) e_69 (i_lo _) (i_hi _)
    have hf_71 : Fm (fun c => c = o ∨ (o + 51 ≤ c ∧ c < o + 57) ∨ c = o + 65 ∨ c = o + 66) I0 I_68 := hf_62.set (by first | rfl | omega | (dsimp only; omega)) e_69
    have t_72 : (I_68 o 104).toInt = (I_59 o 104).toInt := by rw [← e_69, q_u_ne (by omega)]
    have t_73 : (I_68 o 57).toInt = (I_59 o 57).toInt := by rw [← e_69, q_u_ne (by omega)]
    have k_74 : Pap I_68 o := k_65.put66 e_69 (by first | exact Or.inl (by have cl := tCl (x := (I0 o 104)) (by omega); omega) | exact Or.inr (by decide))
    have x_75 : I_68 (o + 51) ((I0 o 104) : Int32).toNatClampNeg = p1 := by rw [← e_69, q_u_ne (by omega)]; exact x_66
    have w_76 : I_68 (o + 56) = rU (I0 (o + 56)) (I0 o 104).toNatClampNeg ((-1) : Int32) := by rw [← e_69, q_u_ne (by omega)]; exact w_67
    have g_77 : (0 : Int) ≤ (I_68 o 104).toInt ∧ (I_68 o 104).toInt ≤ 2000 := hR_70.at0 ra 104 (by decide)
    have l_78 : (1 : Int32).toInt = 1 := rfl
    have a_79 : ((I_68 o 104) + 1).toInt = (I_68 o 104).toInt + (1 : Int32).toInt := tAdd (by omega) (by omega)
    refine fun I_80 e_81 => ?_
    have hR_82 : RI R I_80 := hR_70.up0 (k := 104) ra (by decide) (Or.inr hz114) e_81 (show (0 : Int) ≤ ((I_68 o 104) + 1).toInt by omega) (show ((I_68 o 104) + 1).toInt ≤ (2000 : Int) by omega)
    have hf_83 : Fm (fun c => c = o ∨ (o + 51 ≤ c ∧ c < o + 57) ∨ c = o + 65 ∨ c = o + 66) I0 I_80 := hf_71.set (by first | rfl | omega | (dsimp only; omega)) e_81
    have t_84 : (I_80 o 104).toInt = ((I_68 o 104) + 1).toInt := by rw [← e_81, q_u_at]
    have t_85 : (I_80 o 57).toInt = (I_68 o 57).toInt := by rw [← e_81, q_u_k (by decide)]
    have x_87 : I_80 (o + 51) ((I0 o 104) : Int32).toNatClampNeg = p1 := by rw [← e_81, q_u_ne (by omega)]; exact x_75
    have w_88 : I_80 (o + 56) = rU (I0 (o + 56)) (I0 o 104).toNatClampNeg ((-1) : Int32) := by rw [← e_81, q_u_ne (by omega)]; exact w_76
    have k_89 : Pap I_80 o := by exact Pap.inc (k := ((I0 o 104) : Int32).toNatClampNeg) k_74 e_81 (by omega) (by have cl := tCl (x := I0 o 104) (by omega); omega) (by rw [x_87]; omega)
    refine y_Model_forge2 hok hw ra (by first | omega | (intro h; omega) | exact Or.inl rfl | exact Or.inr rfl) k_89 hR_82 (fun I_92 L_93 hR_94 fr_95 kp_96 u_91 => ⟨I_92, L_93, rfl, rfl, ?_⟩)
    have hf_97 : Fm (fun c => c = o ∨ (o + 51 ≤ c ∧ c < o + 57) ∨ c = o + 65 ∨ c = o + 66) I0 I_92 := hf_83.call fr_95 (fun c hc => by first | exact hc | (dsimp only at hc ⊢; omega) | omega)
    have t_98 : (I_92 o 104).toInt = (I_80 o 104).toInt := by rw [kp_96 104 rfl]
    have t_99 : (I_92 o 57).toInt = (I_80 o 57).toInt := by rw [kp_96 57 rfl]
    have w_100 : I_92 (o + 56) = rU (I0 (o + 56)) (I0 o 104).toNatClampNeg ((-1) : Int32) := (fr_95 (o + 56) (by first | omega | (dsimp only; omega))).trans w_88
    have x_101 : I_92 (o + 51) ((I0 o 104) : Int32).toNatClampNeg = p1 := by rw [fr_95 (o + 51) (by first | omega | (dsimp only; omega))]; exact x_87
    exact (hp _ _ hR_94 hf_97 (by first | omega | (intro h; omega) | exact Or.inl rfl | exact Or.inr rfl) (by first | omega | (intro h; omega) | exact Or.inl rfl | exact Or.inr rfl) (by first | rfl | (have cl := tCl (x := I0 o 104) (by omega); rw [w_100, show (I_92 o 104).toInt.toNat = (I0 o 104).toNatClampNeg + 1 by omega, cnt_up, show pD (-1 : Int32).toInt = 0 from (by decide), Int.add_zero]; rfl)) u_91)
  · have d_102 := iEq c_3
    exact (hp _ _ hR hf (by first | omega | (intro h; omega) | exact Or.inl rfl | exact Or.inr rfl) (by first | omega | (intro h; omega) | exact Or.inl rfl | exact Or.inr rfl) (by first | rfl | (have cl := tCl (x := I0 o 104) (by omega); rw [(rfl : I0 (o + 56) = I0 (o + 56)), show (I0 o 104).toInt.toNat = (I0 o 104).toNatClampNeg + 1 by omega, cnt_up, show pD (-1 : Int32).toInt = 0 from (by decide), Int.add_zero]; rfl)) hq2)
theorem y_Model_give2 {D : va_G} {cA : FieldType → ClassId} {b : Nat} {E : State → Prop} {R : qRg} {o n : Nat} {sh : Nat → qC} {Rf : Nat → Nat → Option Nat} {I0 : Nat → Nat → Int32} {L0 : Nat → Nat → Int64} {post : Option Value → qS → Prop} {p1 : Int32} {p2 : Int32} {p3 : Int32} {p4 : Int32} {p5 : Int32} (hok : q_ok (qGG D cA b E)) (hw : WfModel (qGG D cA b E) n sh Rf o) (ra : RAModel R o) (hz114 : R.2 114 = true) (hq0 : (0 : Int) ≤ p1.toInt ∧ p1.toInt ≤ 5) (hq1 : (I0 o 104).toInt ≤ 1999) (hq2 : Pap I0 o) (hR : RI R I0) (hp : ∀ (I' : Nat → Nat → Int32) (L' : Nat → Nat → Int64), RI R I' → Fm (fun c => c = o ∨ (o + 51 ≤ c ∧ c < o + 57) ∨ c = o + 65 ∨ c = o + 66) I0 I' → Kp wModel_give I0 I' o → ((I0 o 104).toInt ≤ (I' o 104).toInt) → ((I' o 104).toInt ≤ (I0 o 104).toInt + 1) → (cnt pD (I' (o + 56)) (I' o 104).toInt.toNat = cnt pD (I0 (o + 56)) (I0 o 104).toInt.toNat) → (Pap I' o) → post none (n, sh, Rf, I', L')) : Ev (qGG D cA b E) mModel_give 2 (0, 0) 0 (lv_args 0 [.ref o, .int p1, .int p2, .int p3, .int p4, .int p5]) [] (n, sh, Rf, I0, L0) post :=
  yc_Model_give2 (R := fzR R I0 o wModel_give) hok hw (fzA ra hR _) (fzT hz114 rfl) fzZ (fzI hR) hq0 hq1 hq2 (fzI hR) (fun I' L' h1 h2 u0 u1 u2 u3 => hp I' L' (fzB hR h1) h2 (fzP h1) u0 u1 u2 u3)
set_option maxHeartbeats 4000000 in
set_option maxRecDepth 20000 in
theorem yc_Model_send2 {D : va_G} {cA : FieldType → ClassId} {b : Nat} {E : State → Prop} {R : qRg} {o n : Nat} {sh : Nat → qC} {Rf : Nat → Nat → Option Nat} {I0 : Nat → Nat → Int32} {L0 : Nat → Nat → Int64} {post : Option Value → qS → Prop} {p1 : Int32} {p2 : Int32} {p3 : Int32} {p4 : Int32} {p5 : Int32} {p6 : Int32} {p7 : Int32} (hok : q_ok (qGG D cA b E)) (hw : WfModel (qGG D cA b E) n sh Rf o) (ra : RAModel R o) (hz115 : R.2 115 = true) (hZ : Fz R I0 o wModel_send) (hR0 : RI R I0) (hq0 : (-1 : Int) ≤ p1.toInt ∧ p1.toInt ≤ 5) (hq1 : (I0 o 105).toInt ≤ 3999) (hR : RI R I0) (hp : ∀ (I' : Nat → Nat → Int32) (L' : Nat → Nat → Int64), RI R I' → Fm (fun c => c = o ∨ (o + 58 ≤ c ∧ c < o + 65) ∨ c = o + 67) I0 I' → (∃ w, I' (o + 59) = rU (I0 (o + 59)) (I0 o 105).toNatClampNeg w) → (I' (o + 67) = rU (I0 (o + 67)) (I0 o 105).toNatClampNeg (vp_nar .boolean p3)) → (I' (o + 60) = rU (I0 (o + 60)) (I0 o 105).toNatClampNeg p4) → ((I' o 105).toInt = (I0 o 105).toInt + 1) → post none (n, sh, Rf, I', L')) : Ev (qGG D cA b E) mModel_send 1 (0, 0) 0 (lv_args 0 [.ref o, .int p1, .int p2, .int p3, .int p4, .int p5, .int p6, .int p7]) [] (n, sh, Rf, I0, L0) post := by
  have hf : Fm (fun c => c = o ∨ (o + 58 ≤ c ∧ c < o + 65) ∨ c = o + 67) I0 I0 := Fm.rf
  have g_1 : (0 : Int) ≤ (I0 o 105).toInt ∧ (I0 o 105).toInt ≤ 4000 := hR.at0 ra 105 (by decide)
  have g_2 : (0 : Int) ≤ (I0 o 57).toInt ∧ (I0 o 57).toInt ≤ 240 := hR.at0 ra 57 (by decide)
  refine sModel_send_0 o n sh Rf I0 L0 post p1 p2 p3 p4 p5 p6 p7 hok hw ?_
  unfold fModel_send_0
  have g_3 : (0 : Int) ≤ (I0 o 105).toInt ∧ (I0 o 105).toInt ≤ 4000 := hR.at0 ra 105 (by decide)
  refine ⟨tIn (by omega) (by omega), fun I_4 e_5 => ?_⟩
  have hR_6 : RI R I_4 := hR.up ra 58 (by decide) (Or.inl rfl) e_5 (show (-1 : Int) ≤ p1.toInt by omega) (show p1.toInt ≤ (5 : Int) by omega)
  have hf_7 : Fm (fun c => c = o ∨ (o + 58 ≤ c ∧ c < o + 65) ∨ c = o + 67) I0 I_4 := hf.set (by first | rfl | omega | (dsimp only; omega)) e_5
  have t_8 : (I_4 o 105).toInt = (I0 o 105).toInt := by rw [← e_5, q_u_ne (by omega)]
  have t_9 : (I_4 o 57).toInt = (I0 o 57).toInt := by rw [← e_5, q_u_ne (by omega)]
  have w_10 : I_4 (o + 59) = I0 (o + 59) := by rw [← e_5, q_u_ne (by omega)]
  have w_11 : I_4 (o + 60) = I0 (o + 60) := by rw [← e_5, q_u_ne (by omega)]
  have w_12 : I_4 (o + 67) = I0 (o + 67) := by rw [← e_5, q_u_ne (by omega)]
  have g_13 : (0 : Int) ≤ (I_4 o 105).toInt ∧ (I_4 o 105).toInt ≤ 4000 := hR_6.at0 ra 105 (by decide)
  have g_14 : (0 : Int) ≤ (I_4 o 57).toInt ∧ (I_4 o 57).toInt ≤ 240 := hR_6.at0 ra 57 (by decide)
  refine y_Model_monthsOf hok hR_6 (fun r_15  => ⟨r_15, I_4, L0, rfl, rfl, ?_⟩)
  refine y_Model_atLeastOne hok hR_6 (fun r_16 u_17 => ⟨r_16, I_4, L0, rfl, rfl, ?_⟩)
  refine ⟨tIn (by omega) (by omega), fun I_18 e_19 => ?_⟩
  have hR_20 : RI R I_18 := hR_6.up ra 59 (by decide) (Or.inl rfl) e_19 (i_lo _) (i_hi _)
  have hf_21 : Fm (fun c => c = o ∨ (o + 58 ≤ c ∧ c < o + 65) ∨ c = o + 67) I0 I_18 := hf_7.set (by first | rfl | omega | (dsimp only; omega)) e_19
  have t_22 : (I_18 o 105).toInt = (I_4 o 105).toInt := by rw [← e_19, q_u_ne (by omega)]
  have t_23 : (I_18 o 57).toInt = (I_4 o 57).toInt := by rw [← e_19, q_u_ne (by omega)]
  have w_24 : I_18 (o + 59) = rU (I0 (o + 59)) (I0 o 105).toNatClampNeg ((I_4 o 57) + r_16) := by rw [rU_q e_19 (m := (I0 o 105).toNatClampNeg) (clEq (by omega)), w_10]
  have w_25 : I_18 (o + 60) = I0 (o + 60) := by rw [← e_19, q_u_ne (by omega)]; exact w_11
  have w_26 : I_18 (o + 67) = I0 (o + 67) := by rw [← e_19, q_u_ne (by omega)]; exact w_12
  have g_27 : (0 : Int) ≤ (I_18 o 105).toInt ∧ (I_18 o 105).toInt ≤ 4000 := hR_20.at0 ra 105 (by decide)
  refine ⟨tIn (by omega) (by omega), fun I_28 e_29 => ?_⟩
  have hR_30 : RI R I_28 := hR_20.up ra 67 (by decide) (Or.inl rfl) e_29 (i_lo _) (i_hi _)
  have hf_31 : Fm (fun c => c = o ∨ (o + 58 ≤ c ∧ c < o + 65) ∨ c = o + 67) I0 I_28 := hf_21.set (by first | rfl | omega | (dsimp only; omega)) e_29
  have t_32 : (I_28 o 105).toInt = (I_18 o 105).toInt := by rw [← e_29, q_u_ne (by omega)]
  have t_33 : (I_28 o 57).toInt = (I_18 o 57).toInt := by rw [← e_29, q_u_ne (by omega)]
  have w_34 : I_28 (o + 59) = rU (I0 (o + 59)) (I0 o 105).toNatClampNeg ((I_4 o 57) + r_16) := by rw [← e_29, q_u_ne (by omega)]; exact w_24
  have w_35 : I_28 (o + 60) = I0 (o + 60) := by rw [← e_29, q_u_ne (by omega)]; exact w_25
  have w_36 : I_28 (o + 67) = rU (I0 (o + 67)) (I0 o 105).toNatClampNeg (vp_nar .boolean p3) := by rw [rU_q e_29 (m := (I0 o 105).toNatClampNeg) (clEq (by omega)), w_26]
  have g_37 : (0 : Int) ≤ (I_28 o 105).toInt ∧ (I_28 o 105).toInt ≤ 4000 := hR_30.at0 ra 105 (by decide)
  refine ⟨tIn (by omega) (by omega), fun I_38 e_39 => ?_⟩
  have hR_40 : RI R I_38 := hR_30.up ra 60 (by decide) (Or.inl rfl) e_39 (i_lo _) (i_hi _)
  have hf_41 : Fm (fun c => c = o ∨ (o + 58 ≤ c ∧ c < o + 65) ∨ c = o + 67) I0 I_38 := hf_31.set (by first | rfl | omega | (dsimp only; omega)) e_39
  have t_42 : (I_38 o 105).toInt = (I_28 o 105).toInt := by rw [← e_39, q_u_ne (by omega)]
  have t_43 : (I_38 o 57).toInt = (I_28 o 57).toInt := by rw [← e_39, q_u_ne (by omega)]
  have w_44 : I_38 (o + 59) = rU (I0 (o + 59)) (I0 o 105).toNatClampNeg ((I_4 o 57) + r_16) := by rw [← e_39, q_u_ne (by omega)]; exact w_34
  have w_45 : I_38 (o + 60) = rU (I0 (o + 60)) (I0 o 105).toNatClampNeg p4 := by rw [rU_q e_39 (m := (I0 o 105).toNatClampNeg) (clEq (by omega)), w_35]
  have w_46 : I_38 (o + 67) = rU (I0 (o + 67)) (I0 o 105).toNatClampNeg (vp_nar .boolean p3) := by rw [← e_39, q_u_ne (by omega)]; exact w_36
  have g_47 : (0 : Int) ≤ (I_38 o 105).toInt ∧ (I_38 o 105).toInt ≤ 4000 := hR_40.at0 ra 105 (by decide)
  refine ⟨tIn (by omega) (by omega), fun I_48 e_49 => ?_⟩
  have hR_50 : RI R I_48 := hR_40.up ra 61 (by decide) (Or.inl rfl) e_49 (i_lo _) (i_hi _)
  have hf_51 : Fm (fun c => c = o ∨ (o + 58 ≤ c ∧ c < o + 65) ∨ c = o + 67) I0 I_48 := hf_41.set (by first | rfl | omega | (dsimp only; omega)) e_49
  have t_52 : (I_48 o 105).toInt = (I_38 o 105).toInt := by rw [← e_49, q_u_ne (by omega)]
  have t_53 : (I_48 o 57).toInt = (I_38 o 57).toInt := by rw [← e_49, q_u_ne (by omega)]
  have w_54 : I_48 (o + 59) = rU (I0 (o + 59)) (I0 o 105).toNatClampNeg ((I_4 o 57) + r_16) := by rw [← e_49, q_u_ne (by omega)]; exact w_44
  have w_55 : I_48 (o + 60) = rU (I0 (o + 60)) (I0 o 105).toNatClampNeg p4 := by rw [← e_49, q_u_ne (by omega)]; exact w_45
  have w_56 : I_48 (o + 67) = rU (I0 (o + 67)) (I0 o 105).toNatClampNeg (vp_nar .boolean p3) := by rw [← e_49, q_u_ne (by omega)]; exact w_46
  have g_57 : (0 : Int) ≤ (I_48 o 105).toInt ∧ (I_48 o 105).toInt ≤ 4000 := hR_50.at0 ra 105 (by decide)
  refine ⟨tIn (by omega) (by omega), fun I_58 e_59 => ?_⟩
  have hR_60 : RI R I_58 := hR_50.up ra 62 (by decide) (Or.inl rfl) e_59 (i_lo _) (i_hi _)
  have hf_61 : Fm (fun c => c = o ∨ (o + 58 ≤ c ∧ c < o + 65) ∨ c = o + 67) I0 I_58 := hf_51.set (by first | rfl | omega | (dsimp only; omega)) e_59
  have t_62 : (I_58 o 105).toInt = (I_48 o 105).toInt := by rw [← e_59, q_u_ne (by omega)]
  have t_63 : (I_58 o 57).toInt = (I_48 o 57).toInt := by rw [← e_59, q_u_ne (by omega)]
  have w_64 : I_58 (o + 59) = rU (I0 (o + 59)) (I0 o 105).toNatClampNeg ((I_4 o 57) + r_16) := by rw [← e_59, q_u_ne (by omega)]; exact w_54
  have w_65 : I_58 (o + 60) = rU (I0 (o + 60)) (I0 o 105).toNatClampNeg p4 := by rw [← e_59, q_u_ne (by omega)]; exact w_55
  have w_66 : I_58 (o + 67) = rU (I0 (o + 67)) (I0 o 105).toNatClampNeg (vp_nar .boolean p3) := by rw [← e_59, q_u_ne (by omega)]; exact w_56
  have g_67 : (0 : Int) ≤ (I_58 o 105).toInt ∧ (I_58 o 105).toInt ≤ 4000 := hR_60.at0 ra 105 (by decide)
  refine ⟨tIn (by omega) (by omega), fun I_68 e_69 => ?_⟩
  have hR_70 : RI R I_68 := hR_60.up ra 63 (by decide) (Or.inl rfl) e_69 (i_lo _) (i_hi _)
  have hf_71 : Fm (fun c => c = o ∨ (o + 58 ≤ c ∧ c < o + 65) ∨ c = o + 67) I0 I_68 := hf_61.set (by first | rfl | omega | (dsimp only; omega)) e_69
  have t_72 : (I_68 o 105).toInt = (I_58 o 105).toInt := by rw [← e_69, q_u_ne (by omega)]
  have t_73 : (I_68 o 57).toInt = (I_58 o 57).toInt := by rw [← e_69, q_u_ne (by omega)]
  have w_74 : I_68 (o + 59) = rU (I0 (o + 59)) (I0 o 105).toNatClampNeg ((I_4 o 57) + r_16) := by rw [← e_69, q_u_ne (by omega)]; exact w_64
  have w_75 : I_68 (o + 60) = rU (I0 (o + 60)) (I0 o 105).toNatClampNeg p4 := by rw [← e_69, q_u_ne (by omega)]; exact w_65
  have w_76 : I_68 (o + 67) = rU (I0 (o + 67)) (I0 o 105).toNatClampNeg (vp_nar .boolean p3) := by rw [← e_69, q_u_ne (by omega)]; exact w_66
  have g_77 : (0 : Int) ≤ (I_68 o 105).toInt ∧ (I_68 o 105).toInt ≤ 4000 := hR_70.at0 ra 105 (by decide)
  refine ⟨tIn (by omega) (by omega), fun I_78 e_79 => ?_⟩
  have hR_80 : RI R I_78 := hR_70.up ra 64 (by decide) (Or.inl rfl) e_79 (i_lo _) (i_hi _)
  have hf_81 : Fm (fun c => c = o ∨ (o + 58 ≤ c ∧ c < o + 65) ∨ c = o + 67) I0 I_78 := hf_71.set (by first | rfl | omega | (dsimp only; omega)) e_79
  have t_82 : (I_78 o 105).toInt = (I_68 o 105).toInt := by rw [← e_79, q_u_ne (by omega)]
  have t_83 : (I_78 o 57).toInt = (I_68 o 57).toInt := by rw [← e_79, q_u_ne (by omega)]
  have w_84 : I_78 (o + 59) = rU (I0 (o + 59)) (I0 o 105).toNatClampNeg ((I_4 o 57) + r_16) := by rw [← e_79, q_u_ne (by omega)]; exact w_74
  have w_85 : I_78 (o + 60) = rU (I0 (o + 60)) (I0 o 105).toNatClampNeg p4 := by rw [← e_79, q_u_ne (by omega)]; exact w_75
  have w_86 : I_78 (o + 67) = rU (I0 (o + 67)) (I0 o 105).toNatClampNeg (vp_nar .boolean p3) := by rw [← e_79, q_u_ne (by omega)]; exact w_76
  have g_87 : (0 : Int) ≤ (I_78 o 105).toInt ∧ (I_78 o 105).toInt ≤ 4000 := hR_80.at0 ra 105 (by decide)
  have l_88 : (1 : Int32).toInt = 1 := rfl
  have a_89 : ((I_78 o 105) + 1).toInt = (I_78 o 105).toInt + (1 : Int32).toInt := tAdd (by omega) (by omega)
  refine fun I_90 e_91 => ?_
  have hR_92 : RI R I_90 := hR_80.up0 (k := 105) ra (by decide) (Or.inr hz115) e_91 (show (0 : Int) ≤ ((I_78 o 105) + 1).toInt by omega) (show ((I_78 o 105) + 1).toInt ≤ (4000 : Int) by omega)
  have hf_93 : Fm (fun c => c = o ∨ (o + 58 ≤ c ∧ c < o + 65) ∨ c = o + 67) I0 I_90 := hf_81.set (by first | rfl | omega | (dsimp only; omega)) e_91
  have t_94 : (I_90 o 105).toInt = ((I_78 o 105) + 1).toInt := by rw [← e_91, q_u_at]
  have t_95 : (I_90 o 57).toInt = (I_78 o 57).toInt := by rw [← e_91, q_u_k (by decide)]
  have w_96 : I_90 (o + 59) = rU (I0 (o + 59)) (I0 o 105).toNatClampNeg ((I_4 o 57) + r_16) := by rw [← e_91, q_u_ne (by omega)]; exact w_84
  have w_97 : I_90 (o + 60) = rU (I0 (o + 60)) (I0 o 105).toNatClampNeg p4 := by rw [← e_91, q_u_ne (by omega)]; exact w_85
  have w_98 : I_90 (o + 67) = rU (I0 (o + 67)) (I0 o 105).toNatClampNeg (vp_nar .boolean p3) := by rw [← e_91, q_u_ne (by omega)]; exact w_86
  exact (hp _ _ hR_92 hf_93 (by exact ⟨_, w_96⟩) (by exact w_98) (by exact w_97) (by first | omega | (intro h; omega) | exact Or.inl rfl | exact Or.inr rfl))
theorem y_Model_send2 {D : va_G} {cA : FieldType → ClassId} {b : Nat} {E : State → Prop} {R : qRg} {o n : Nat} {sh : Nat → qC} {Rf : Nat → Nat → Option Nat} {I0 : Nat → Nat → Int32} {L0 : Nat → Nat → Int64} {post : Option Value → qS → Prop} {p1 : Int32} {p2 : Int32} {p3 : Int32} {p4 : Int32} {p5 : Int32} {p6 : Int32} {p7 : Int32} (hok : q_ok (qGG D cA b E)) (hw : WfModel (qGG D cA b E) n sh Rf o) (ra : RAModel R o) (hz115 : R.2 115 = true) (hq0 : (-1 : Int) ≤ p1.toInt ∧ p1.toInt ≤ 5) (hq1 : (I0 o 105).toInt ≤ 3999) (hR : RI R I0) (hp : ∀ (I' : Nat → Nat → Int32) (L' : Nat → Nat → Int64), RI R I' → Fm (fun c => c = o ∨ (o + 58 ≤ c ∧ c < o + 65) ∨ c = o + 67) I0 I' → Kp wModel_send I0 I' o → (∃ w, I' (o + 59) = rU (I0 (o + 59)) (I0 o 105).toNatClampNeg w) → (I' (o + 67) = rU (I0 (o + 67)) (I0 o 105).toNatClampNeg (vp_nar .boolean p3)) → (I' (o + 60) = rU (I0 (o + 60)) (I0 o 105).toNatClampNeg p4) → ((I' o 105).toInt = (I0 o 105).toInt + 1) → post none (n, sh, Rf, I', L')) : Ev (qGG D cA b E) mModel_send 1 (0, 0) 0 (lv_args 0 [.ref o, .int p1, .int p2, .int p3, .int p4, .int p5, .int p6, .int p7]) [] (n, sh, Rf, I0, L0) post :=
  yc_Model_send2 (R := fzR R I0 o wModel_send) hok hw (fzA ra hR _) (fzT hz115 rfl) fzZ (fzI hR) hq0 hq1 (fzI hR) (fun I' L' h1 h2 u0 u1 u2 u3 => hp I' L' (fzB hR h1) h2 (fzP h1) u0 u1 u2 u3)
def wModel_bury : Nat → Bool := fun j => false
set_option maxHeartbeats 4000000 in
set_option maxRecDepth 20000 in
theorem yModel_bury_189 {D : va_G} {cA : FieldType → ClassId} {b : Nat} {E : State → Prop} {R : qRg} {o n : Nat} {sh : Nat → qC} {Rf : Nat → Nat → Option Nat} {I0 : Nat → Nat → Int32} {L0 : Nat → Nat → Int64} {post : Option Value → qS → Prop} {p1 : Int32} (hok : q_ok (qGG D cA b E)) (hw : WfModel (qGG D cA b E) n sh Rf o) (ra : RAModel R o) (hZ : Fz R I0 o wModel_bury) (hR0 : RI R I0) (hq0 : (0 : Int) ≤ p1.toInt ∧ p1.toInt ≤ 5) (hq1 : Pap I0 o) (hp : ∀ (I' : Nat → Nat → Int32) (L' : Nat → Nat → Int64), RI R I' → Fm (fun c => c = o + 48 ∨ c = o + 51 ∨ c = o + 58 ∨ c = o + 66) I0 I' → (Pap I' o) → post none (n, sh, Rf, I', L')) : ∀ (k : Nat) {x1 : Int32} {x2 : Int32} {x3 : Int32} {I : Nat → Nat → Int32} {L : Nat → Nat → Int64}, RI R I → Fm (fun c => c = o + 48 ∨ c = o + 51 ∨ c = o + 58 ∨ c = o + 66) I0 I → ((0 : Int) ≤ x3.toInt ∧ x3.toInt ≤ 3) → ((0 : Int) ≤ x1.toInt ∧ x1.toInt ≤ 5) → (Pap I o) → (3 - x3.toInt).toNat < k → Ev (qGG D cA b E) mModel_bury 1 (0, 0) 189 [(0, .ref o), (1, .int x1), (2, .int x2), (3, .int x3)] [] (n, sh, Rf, I, L) post := by
  intro k
  induction k with
  | zero =>
    intro x1 x2 x3 I L hR hf hi0 hi1 hi2 hm
    exact absurd hm (Nat.not_lt_zero _)
  | succ k ih =>
    intro x1 x2 x3 I L hR hf hi0 hi1 hi2 hm
    have g_1 : (0 : Int) ≤ (I o 57).toInt ∧ (I o 57).toInt ≤ 240 := hR.at0 ra 57 (by decide)
    have z_2 : (I o 57).toInt = (I0 o 57).toInt := by rw [hZ I 57 rfl hR]
    have g_3 : (0 : Int) ≤ (I o 104).toInt ∧ (I o 104).toInt ≤ 2000 := hR.at0 ra 104 (by decide)
    have z_4 : (I o 104).toInt = (I0 o 104).toInt := by rw [hZ I 104 rfl hR]
    have g_5 : (0 : Int) ≤ (I o 105).toInt ∧ (I o 105).toInt ≤ 4000 := hR.at0 ra 105 (by decide)
    have z_6 : (I o 105).toInt = (I0 o 105).toInt := by rw [hZ I 105 rfl hR]
    refine sModel_bury_189 o n sh Rf I L post x1 x2 x3 hok hw ?_
    unfold fModel_bury_189
    have l_7 : (3 : Int32).toInt = 3 := rfl
    refine ⟨fun c_8 => ?_, fun c_8 => ?_⟩
    · have d_9 := iLe c_8
      exact (hp _ _ hR hf  hi2)
    · have d_10 := iNle c_8
      have a_11 : (3 * x1).toInt = 3 * x1.toInt := tMulL rfl (by omega) (by omega)
      have a_12 : ((3 * x1) + x3).toInt = (3 * x1).toInt + x3.toInt := tAdd (by omega) (by omega)
      have l_13 : (-1 : Int32).toInt = -1 := rfl
      refine ⟨tIn (by omega) (by omega), fun I_14 e_15 => ?_⟩
      have hR_16 : RI R I_14 := hR.up ra 48 (by decide) (Or.inl rfl) e_15 (i_lo _) (i_hi _)
      have hf_17 : Fm (fun c => c = o + 48 ∨ c = o + 51 ∨ c = o + 58 ∨ c = o + 66) I0 I_14 := hf.set (by first | rfl | omega | (dsimp only; omega)) e_15
      have t_18 : (I_14 o 57).toInt = (I o 57).toInt := by rw [← e_15, q_u_ne (by omega)]
      have t_19 : (I_14 o 104).toInt = (I o 104).toInt := by rw [← e_15, q_u_ne (by omega)]
      have t_20 : (I_14 o 105).toInt = (I o 105).toInt := by rw [← e_15, q_u_ne (by omega)]
      have k_21 : Pap I_14 o := hi2.fr (by rw [← e_15]; exact q_u_ne (by omega)) (by rw [← e_15]; exact q_u_ne (by omega)) (by rw [← e_15]; exact q_u_ne (by omega)) (by rw [← e_15, q_u_ne (by omega)])
      have a_23 : (x3 + Int32.ofInt 1).toInt = x3.toInt + (1) := tIc (by omega) (by omega) (by decide) (by decide)
      generalize ez_22 : (x3 + Int32.ofInt 1) = z_22 at a_23 ⊢
      exact ih hR_16 hf_17 (by first | omega | (intro h; omega) | exact Or.inl rfl | exact Or.inr rfl) (by first | omega | (intro h; omega) | exact Or.inl rfl | exact Or.inr rfl) k_21 (by omega)
set_option maxHeartbeats 4000000 in
set_option maxRecDepth 20000 in
theorem yModel_bury_143 {D : va_G} {cA : FieldType → ClassId} {b : Nat} {E : State → Prop} {R : qRg} {o n : Nat} {sh : Nat → qC} {Rf : Nat → Nat → Option Nat} {I0 : Nat → Nat → Int32} {L0 : Nat → Nat → Int64} {post : Option Value → qS → Prop} {p1 : Int32} (hok : q_ok (qGG D cA b E)) (hw : WfModel (qGG D cA b E) n sh Rf o) (ra : RAModel R o) (hZ : Fz R I0 o wModel_bury) (hR0 : RI R I0) (hq0 : (0 : Int) ≤ p1.toInt ∧ p1.toInt ≤ 5) (hq1 : Pap I0 o) (hp : ∀ (I' : Nat → Nat → Int32) (L' : Nat → Nat → Int64), RI R I' → Fm (fun c => c = o + 48 ∨ c = o + 51 ∨ c = o + 58 ∨ c = o + 66) I0 I' → (Pap I' o) → post none (n, sh, Rf, I', L')) : ∀ (k : Nat) {x1 : Int32} {x2 : Int32} {x3 : Int32} {I : Nat → Nat → Int32} {L : Nat → Nat → Int64}, RI R I → Fm (fun c => c = o + 48 ∨ c = o + 51 ∨ c = o + 58 ∨ c = o + 66) I0 I → ((0 : Int) ≤ x3.toInt ∧ x3.toInt ≤ 4000) → ((0 : Int) ≤ x1.toInt ∧ x1.toInt ≤ 5) → ((-1 : Int) ≤ x2.toInt ∧ x2.toInt ≤ 5) → (Pap I o) → (4000 - x3.toInt).toNat < k → Ev (qGG D cA b E) mModel_bury 1 (0, 0) 143 [(0, .ref o), (1, .int x1), (2, .int x2), (3, .int x3)] [] (n, sh, Rf, I, L) post := by
  intro k
  induction k with
  | zero =>
    intro x1 x2 x3 I L hR hf hi0 hi1 hi2 hi3 hm
    exact absurd hm (Nat.not_lt_zero _)
  | succ k ih =>
    intro x1 x2 x3 I L hR hf hi0 hi1 hi2 hi3 hm
    have g_24 : (0 : Int) ≤ (I o 57).toInt ∧ (I o 57).toInt ≤ 240 := hR.at0 ra 57 (by decide)
    have z_25 : (I o 57).toInt = (I0 o 57).toInt := by rw [hZ I 57 rfl hR]
    have g_26 : (0 : Int) ≤ (I o 104).toInt ∧ (I o 104).toInt ≤ 2000 := hR.at0 ra 104 (by decide)
    have z_27 : (I o 104).toInt = (I0 o 104).toInt := by rw [hZ I 104 rfl hR]
    have g_28 : (0 : Int) ≤ (I o 105).toInt ∧ (I o 105).toInt ≤ 4000 := hR.at0 ra 105 (by decide)
    have z_29 : (I o 105).toInt = (I0 o 105).toInt := by rw [hZ I 105 rfl hR]
    refine sModel_bury_143 o n sh Rf I L post x1 x2 x3 hok hw ?_
    unfold fModel_bury_143
    have g_30 : (0 : Int) ≤ (I o 105).toInt ∧ (I o 105).toInt ≤ 4000 := hR.at0 ra 105 (by decide)
    refine ⟨fun c_31 => ?_, fun c_31 => ?_⟩
    · have d_32 := iLe c_31
      have l_33 : (0 : Int32).toInt = 0 := rfl
      exact yModel_bury_189 (I0 := I0) (L0 := L0) (p1 := p1) hok hw ra hZ hR0 hq0 hq1 hp  _ hR hf (by first | omega | (intro h; omega) | exact Or.inl rfl | exact Or.inr rfl) (by first | omega | (intro h; omega) | exact Or.inl rfl | exact Or.inr rfl) hi3 (Nat.lt_succ_self _)
    · have d_34 := iNle c_31
      refine ⟨tIn (by omega) (by omega), ?_⟩
      have g_35 : (-1 : Int) ≤ (I (o + 58) (x3 : Int32).toNatClampNeg).toInt ∧ (I (o + 58) (x3 : Int32).toNatClampNeg).toInt ≤ 5 := hR.at ra 58 _ (by decide)
      refine ⟨fun c_36 => ?_, fun c_36 => ?_⟩
      · have d_37 := iNe c_36
        unfold fModel_bury_181
        have a_39 : (x3 + Int32.ofInt 1).toInt = x3.toInt + (1) := tIc (by omega) (by omega) (by decide) (by decide)
        generalize ez_38 : (x3 + Int32.ofInt 1) = z_38 at a_39 ⊢
        exact ih hR hf (by first | omega | (intro h; omega) | exact Or.inl rfl | exact Or.inr rfl) (by first | omega | (intro h; omega) | exact Or.inl rfl | exact Or.inr rfl) (by first | omega | (intro h; omega) | exact Or.inl rfl | exact Or.inr rfl) hi3 (by omega)
      · have d_40 := iEq c_36
        refine ⟨tIn (by omega) (by omega), ?_⟩
        have g_41 : (0 : Int) ≤ (I o 57).toInt ∧ (I o 57).toInt ≤ 240 := hR.at0 ra 57 (by decide)
        refine ⟨fun c_42 => ?_, fun c_42 => ?_⟩
        · have d_43 := iLt c_42
          unfold fModel_bury_181
          have a_45 : (x3 + Int32.ofInt 1).toInt = x3.toInt + (1) := tIc (by omega) (by omega) (by decide) (by decide)
          generalize ez_44 : (x3 + Int32.ofInt 1) = z_44 at a_45 ⊢
          exact ih hR hf (by first | omega | (intro h; omega) | exact Or.inl rfl | exact Or.inr rfl) (by first | omega | (intro h; omega) | exact Or.inl rfl | exact Or.inr rfl) (by first | omega | (intro h; omega) | exact Or.inl rfl | exact Or.inr rfl) hi3 (by omega)
        · have d_46 := iNlt c_42
          refine ⟨tIn (by omega) (by omega), fun I_47 e_48 => ?_⟩
          have hR_49 : RI R I_47 := hR.up ra 58 (by decide) (Or.inl rfl) e_48 (show (-1 : Int) ≤ x2.toInt by omega) (show x2.toInt ≤ (5 : Int) by omega)
          have hf_50 : Fm (fun c => c = o + 48 ∨ c = o + 51 ∨ c = o + 58 ∨ c = o + 66) I0 I_47 := hf.set (by first | rfl | omega | (dsimp only; omega)) e_48
          have t_51 : (I_47 o 57).toInt = (I o 57).toInt := by rw [← e_48, q_u_ne (by omega)]
          have t_52 : (I_47 o 104).toInt = (I o 104).toInt := by rw [← e_48, q_u_ne (by omega)]
          have t_53 : (I_47 o 105).toInt = (I o 105).toInt := by rw [← e_48, q_u_ne (by omega)]
          have k_54 : Pap I_47 o := hi3.fr (by rw [← e_48]; exact q_u_ne (by omega)) (by rw [← e_48]; exact q_u_ne (by omega)) (by rw [← e_48]; exact q_u_ne (by omega)) (by rw [← e_48, q_u_ne (by omega)])
          unfold fModel_bury_181
          have a_56 : (x3 + Int32.ofInt 1).toInt = x3.toInt + (1) := tIc (by omega) (by omega) (by decide) (by decide)
          generalize ez_55 : (x3 + Int32.ofInt 1) = z_55 at a_56 ⊢
          exact ih hR_49 hf_50 (by first | omega | (intro h; omega) | exact Or.inl rfl | exact Or.inr rfl) (by first | omega | (intro h; omega) | exact Or.inl rfl | exact Or.inr rfl) (by first | omega | (intro h; omega) | exact Or.inl rfl | exact Or.inr rfl) k_54 (by omega)
set_option maxHeartbeats 4000000 in
set_option maxRecDepth 20000 in
theorem yModel_bury_84 {D : va_G} {cA : FieldType → ClassId} {b : Nat} {E : State → Prop} {R : qRg} {o n : Nat} {sh : Nat → qC} {Rf : Nat → Nat → Option Nat} {I0 : Nat → Nat → Int32} {L0 : Nat → Nat → Int64} {post : Option Value → qS → Prop} {p1 : Int32} (hok : q_ok (qGG D cA b E)) (hw : WfModel (qGG D cA b E) n sh Rf o) (ra : RAModel R o) (hZ : Fz R I0 o wModel_bury) (hR0 : RI R I0) (hq0 : (0 : Int) ≤ p1.toInt ∧ p1.toInt ≤ 5) (hq1 : Pap I0 o) (hp : ∀ (I' : Nat → Nat → Int32) (L' : Nat → Nat → Int64), RI R I' → Fm (fun c => c = o + 48 ∨ c = o + 51 ∨ c = o + 58 ∨ c = o + 66) I0 I' → (Pap I' o) → post none (n, sh, Rf, I', L')) : ∀ (k : Nat) {x1 : Int32} {x2 : Int32} {x3 : Int32} {I : Nat → Nat → Int32} {L : Nat → Nat → Int64}, RI R I → Fm (fun c => c = o + 48 ∨ c = o + 51 ∨ c = o + 58 ∨ c = o + 66) I0 I → ((0 : Int) ≤ x3.toInt ∧ x3.toInt ≤ 2000) → ((0 : Int) ≤ x1.toInt ∧ x1.toInt ≤ 5) → ((-1 : Int) ≤ x2.toInt ∧ x2.toInt ≤ 5) → (Pap I o) → (2000 - x3.toInt).toNat < k → Ev (qGG D cA b E) mModel_bury 1 (0, 0) 84 [(0, .ref o), (1, .int x1), (2, .int x2), (3, .int x3)] [] (n, sh, Rf, I, L) post := by
  intro k
  induction k with
  | zero =>
    intro x1 x2 x3 I L hR hf hi0 hi1 hi2 hi3 hm
    exact absurd hm (Nat.not_lt_zero _)
  | succ k ih =>
    intro x1 x2 x3 I L hR hf hi0 hi1 hi2 hi3 hm
    have g_57 : (0 : Int) ≤ (I o 57).toInt ∧ (I o 57).toInt ≤ 240 := hR.at0 ra 57 (by decide)
    have z_58 : (I o 57).toInt = (I0 o 57).toInt := by rw [hZ I 57 rfl hR]
    have g_59 : (0 : Int) ≤ (I o 104).toInt ∧ (I o 104).toInt ≤ 2000 := hR.at0 ra 104 (by decide)
    have z_60 : (I o 104).toInt = (I0 o 104).toInt := by rw [hZ I 104 rfl hR]
    have g_61 : (0 : Int) ≤ (I o 105).toInt ∧ (I o 105).toInt ≤ 4000 := hR.at0 ra 105 (by decide)
    have z_62 : (I o 105).toInt = (I0 o 105).toInt := by rw [hZ I 105 rfl hR]
    refine sModel_bury_84 o n sh Rf I L post x1 x2 x3 hok hw ?_
    unfold fModel_bury_84
    have g_63 : (0 : Int) ≤ (I o 104).toInt ∧ (I o 104).toInt ≤ 2000 := hR.at0 ra 104 (by decide)
    refine ⟨fun c_64 => ?_, fun c_64 => ?_⟩
    · have d_65 := iLe c_64
      have l_66 : (0 : Int32).toInt = 0 := rfl
      exact yModel_bury_143 (I0 := I0) (L0 := L0) (p1 := p1) hok hw ra hZ hR0 hq0 hq1 hp  _ hR hf (by first | omega | (intro h; omega) | exact Or.inl rfl | exact Or.inr rfl) (by first | omega | (intro h; omega) | exact Or.inl rfl | exact Or.inr rfl) (by first | omega | (intro h; omega) | exact Or.inl rfl | exact Or.inr rfl) hi3 (Nat.lt_succ_self _)
    · have d_67 := iNle c_64
      refine ⟨tIn (by omega) (by omega), ?_⟩
      have g_68 : (-1 : Int) ≤ (I (o + 51) (x3 : Int32).toNatClampNeg).toInt ∧ (I (o + 51) (x3 : Int32).toNatClampNeg).toInt ≤ 5 := hR.at ra 51 _ (by decide)
      refine ⟨fun c_69 => ?_, fun c_69 => ?_⟩
      · have d_70 := iNe c_69
        unfold fModel_bury_135
        have a_72 : (x3 + Int32.ofInt 1).toInt = x3.toInt + (1) := tIc (by omega) (by omega) (by decide) (by decide)
        generalize ez_71 : (x3 + Int32.ofInt 1) = z_71 at a_72 ⊢
        exact ih hR hf (by first | omega | (intro h; omega) | exact Or.inl rfl | exact Or.inr rfl) (by first | omega | (intro h; omega) | exact Or.inl rfl | exact Or.inr rfl) (by first | omega | (intro h; omega) | exact Or.inl rfl | exact Or.inr rfl) hi3 (by omega)
      · have d_73 := iEq c_69
        refine y_Model_waits2 hok hw ra (by first | omega | (intro h; omega) | exact Or.inl rfl | exact Or.inr rfl) hR (fun r_74 u_75 u_76 => ⟨r_74, I, L, rfl, rfl, ?_⟩)
        have b_77 : 0 ≤ r_74.toInt ∧ r_74.toInt ≤ 1 := u_75.rg
        have l_78 : (0 : Int32).toInt = 0 := rfl
        refine ⟨fun c_79 => ?_, fun c_79 => ?_⟩
        · have d_80 := iNe c_79
          have i_81 := u_76 (by omega)
          refine ⟨tIn (by omega) (by omega), fun I_82 e_83 => ?_⟩
          have hR_84 : RI R I_82 := hR.up ra 51 (by decide) (Or.inl rfl) e_83 (show (-1 : Int) ≤ x2.toInt by omega) (show x2.toInt ≤ (5 : Int) by omega)
          have hf_85 : Fm (fun c => c = o + 48 ∨ c = o + 51 ∨ c = o + 58 ∨ c = o + 66) I0 I_82 := hf.set (by first | rfl | omega | (dsimp only; omega)) e_83
          have t_86 : (I_82 o 57).toInt = (I o 57).toInt := by rw [← e_83, q_u_ne (by omega)]
          have t_87 : (I_82 o 104).toInt = (I o 104).toInt := by rw [← e_83, q_u_ne (by omega)]
          have t_88 : (I_82 o 105).toInt = (I o 105).toInt := by rw [← e_83, q_u_ne (by omega)]
          refine ⟨fun c_90 => ?_, fun c_90 => ?_⟩
          · have d_91 := iLe c_90
            unfold fModel_bury_134
            refine ⟨tIn (by omega) (by omega), fun I_92 e_93 => ?_⟩
            have hR_94 : RI R I_92 := hR_84.up ra 66 (by decide) (Or.inl rfl) e_93 (i_lo _) (i_hi _)
            have hf_95 : Fm (fun c => c = o + 48 ∨ c = o + 51 ∨ c = o + 58 ∨ c = o + 66) I0 I_92 := hf_85.set (by first | rfl | omega | (dsimp only; omega)) e_93
            have t_96 : (I_92 o 57).toInt = (I_82 o 57).toInt := by rw [← e_93, q_u_ne (by omega)]
            have t_97 : (I_92 o 104).toInt = (I_82 o 104).toInt := by rw [← e_93, q_u_ne (by omega)]
            have t_98 : (I_92 o 105).toInt = (I_82 o 105).toInt := by rw [← e_93, q_u_ne (by omega)]
            unfold fModel_bury_135
            have k_99 : Pap I_92 o := by exact Pap.bur hi3 e_83 e_93 (by first | exact Or.inl (by omega) | exact Or.inr (by decide))
            have a_101 : (x3 + Int32.ofInt 1).toInt = x3.toInt + (1) := tIc (by omega) (by omega) (by decide) (by decide)
            generalize ez_100 : (x3 + Int32.ofInt 1) = z_100 at a_101 ⊢
            exact ih hR_94 hf_95 (by first | omega | (intro h; omega) | exact Or.inl rfl | exact Or.inr rfl) (by first | omega | (intro h; omega) | exact Or.inl rfl | exact Or.inr rfl) (by first | omega | (intro h; omega) | exact Or.inl rfl | exact Or.inr rfl) k_99 (by omega)
          · have d_102 := iNle c_90
            unfold fModel_bury_134
            have l_103 : (1 : Int32).toInt = 1 := rfl
            refine ⟨tIn (by omega) (by omega), fun I_104 e_105 => ?_⟩
            have hR_106 : RI R I_104 := hR_84.up ra 66 (by decide) (Or.inl rfl) e_105 (i_lo _) (i_hi _)
            have hf_107 : Fm (fun c => c = o + 48 ∨ c = o + 51 ∨ c = o + 58 ∨ c = o + 66) I0 I_104 := hf_85.set (by first | rfl | omega | (dsimp only; omega)) e_105
            have t_108 : (I_104 o 57).toInt = (I_82 o 57).toInt := by rw [← e_105, q_u_ne (by omega)]
            have t_109 : (I_104 o 104).toInt = (I_82 o 104).toInt := by rw [← e_105, q_u_ne (by omega)]
            have t_110 : (I_104 o 105).toInt = (I_82 o 105).toInt := by rw [← e_105, q_u_ne (by omega)]
            unfold fModel_bury_135
            have k_111 : Pap I_104 o := by exact Pap.bur hi3 e_83 e_105 (by first | exact Or.inl (by omega) | exact Or.inr (by decide))
            have a_113 : (x3 + Int32.ofInt 1).toInt = x3.toInt + (1) := tIc (by omega) (by omega) (by decide) (by decide)
            generalize ez_112 : (x3 + Int32.ofInt 1) = z_112 at a_113 ⊢
            exact ih hR_106 hf_107 (by first | omega | (intro h; omega) | exact Or.inl rfl | exact Or.inr rfl) (by first | omega | (intro h; omega) | exact Or.inl rfl | exact Or.inr rfl) (by first | omega | (intro h; omega) | exact Or.inl rfl | exact Or.inr rfl) k_111 (by omega)
        · have d_114 := iEq c_79
          unfold fModel_bury_135
          have a_116 : (x3 + Int32.ofInt 1).toInt = x3.toInt + (1) := tIc (by omega) (by omega) (by decide) (by decide)
          generalize ez_115 : (x3 + Int32.ofInt 1) = z_115 at a_116 ⊢
          exact ih hR hf (by first | omega | (intro h; omega) | exact Or.inl rfl | exact Or.inr rfl) (by first | omega | (intro h; omega) | exact Or.inl rfl | exact Or.inr rfl) (by first | omega | (intro h; omega) | exact Or.inl rfl | exact Or.inr rfl) hi3 (by omega)
set_option maxHeartbeats 4000000 in
set_option maxRecDepth 20000 in
theorem yc_Model_bury {D : va_G} {cA : FieldType → ClassId} {b : Nat} {E : State → Prop} {R : qRg} {o n : Nat} {sh : Nat → qC} {Rf : Nat → Nat → Option Nat} {I0 : Nat → Nat → Int32} {L0 : Nat → Nat → Int64} {post : Option Value → qS → Prop} {p1 : Int32} (hok : q_ok (qGG D cA b E)) (hw : WfModel (qGG D cA b E) n sh Rf o) (ra : RAModel R o) (hZ : Fz R I0 o wModel_bury) (hR0 : RI R I0) (hq0 : (0 : Int) ≤ p1.toInt ∧ p1.toInt ≤ 5) (hq1 : Pap I0 o) (hR : RI R I0) (hp : ∀ (I' : Nat → Nat → Int32) (L' : Nat → Nat → Int64), RI R I' → Fm (fun c => c = o + 48 ∨ c = o + 51 ∨ c = o + 58 ∨ c = o + 66) I0 I' → (Pap I' o) → post none (n, sh, Rf, I', L')) : Ev (qGG D cA b E) mModel_bury 1 (0, 0) 0 (lv_args 0 [.ref o, .int p1]) [] (n, sh, Rf, I0, L0) post := by
  have hf : Fm (fun c => c = o + 48 ∨ c = o + 51 ∨ c = o + 58 ∨ c = o + 66) I0 I0 := Fm.rf
  have g_117 : (0 : Int) ≤ (I0 o 57).toInt ∧ (I0 o 57).toInt ≤ 240 := hR.at0 ra 57 (by decide)
  have g_118 : (0 : Int) ≤ (I0 o 104).toInt ∧ (I0 o 104).toInt ≤ 2000 := hR.at0 ra 104 (by decide)
  have g_119 : (0 : Int) ≤ (I0 o 105).toInt ∧ (I0 o 105).toInt ≤ 4000 := hR.at0 ra 105 (by decide)
  refine sModel_bury_0 o n sh Rf I0 L0 post p1 hok hw ?_
  unfold fModel_bury_0
  refine ⟨tIn (by omega) (by omega), ?_⟩
  have g_120 : (-1 : Int) ≤ (I0 (o + 50) (p1 : Int32).toNatClampNeg).toInt ∧ (I0 (o + 50) (p1 : Int32).toNatClampNeg).toInt ≤ 5 := hR.at ra 50 _ (by decide)
  have l_121 : (0 : Int32).toInt = 0 := rfl
  refine ⟨fun c_122 => ?_, fun c_122 => ?_⟩
  · have d_123 := iLt c_122
    unfold fModel_bury_36
    unfold fModel_bury_37
    have l_124 : (-1 : Int32).toInt = -1 := rfl
    refine ⟨fun c_125 => ?_, fun c_125 => ?_⟩
    · have d_126 := iLt c_125
      refine ⟨tIn (by omega) (by omega), ?_⟩
      refine fun L_127 e_128 => ?_
      unfold fModel_bury_75
      refine ⟨tIn (by omega) (by omega), fun L_129 e_130 => ?_⟩
      exact yModel_bury_84 (I0 := I0) (L0 := L0) (p1 := p1) hok hw ra hZ hR0 hq0 hq1 hp  _ hR hf (by first | omega | (intro h; omega) | exact Or.inl rfl | exact Or.inr rfl) (by first | omega | (intro h; omega) | exact Or.inl rfl | exact Or.inr rfl) (by first | omega | (intro h; omega) | exact Or.inl rfl | exact Or.inr rfl) hq1 (Nat.lt_succ_self _)
    · have d_131 := iNlt c_125
      exfalso; omega
  · have d_132 := iNlt c_122
    refine ⟨tIn (by omega) (by omega), ?_⟩
    have g_133 : (-1 : Int) ≤ (I0 (o + 50) (p1 : Int32).toNatClampNeg).toInt ∧ (I0 (o + 50) (p1 : Int32).toNatClampNeg).toInt ≤ 5 := hR.at ra 50 _ (by decide)
    refine ⟨tIn (by omega) (by omega), ?_⟩
    have g_134 : (0 : Int) ≤ (I0 o 57).toInt ∧ (I0 o 57).toInt ≤ 240 := hR.at0 ra 57 (by decide)
    refine ⟨fun c_135 => ?_, fun c_135 => ?_⟩
    · have d_136 := iLe c_135
      unfold fModel_bury_36
      unfold fModel_bury_37
      have l_137 : (-1 : Int32).toInt = -1 := rfl
      refine ⟨fun c_138 => ?_, fun c_138 => ?_⟩
      · have d_139 := iLt c_138
        refine ⟨tIn (by omega) (by omega), ?_⟩
        refine fun L_140 e_141 => ?_
        unfold fModel_bury_75
        refine ⟨tIn (by omega) (by omega), fun L_142 e_143 => ?_⟩
        exact yModel_bury_84 (I0 := I0) (L0 := L0) (p1 := p1) hok hw ra hZ hR0 hq0 hq1 hp  _ hR hf (by first | omega | (intro h; omega) | exact Or.inl rfl | exact Or.inr rfl) (by first | omega | (intro h; omega) | exact Or.inl rfl | exact Or.inr rfl) (by first | omega | (intro h; omega) | exact Or.inl rfl | exact Or.inr rfl) hq1 (Nat.lt_succ_self _)
      · have d_144 := iNlt c_138
        exfalso; omega
    · have d_145 := iNle c_135
      refine ⟨tIn (by omega) (by omega), ?_⟩
      have g_146 : (-1 : Int) ≤ (I0 (o + 50) (p1 : Int32).toNatClampNeg).toInt ∧ (I0 (o + 50) (p1 : Int32).toNatClampNeg).toInt ≤ 5 := hR.at ra 50 _ (by decide)
      unfold fModel_bury_37
      refine ⟨fun c_147 => ?_, fun c_147 => ?_⟩
      · have d_148 := iLt c_147
        refine ⟨tIn (by omega) (by omega), ?_⟩
        refine fun L_149 e_150 => ?_
        unfold fModel_bury_75
        refine ⟨tIn (by omega) (by omega), fun L_151 e_152 => ?_⟩
        exact yModel_bury_84 (I0 := I0) (L0 := L0) (p1 := p1) hok hw ra hZ hR0 hq0 hq1 hp  _ hR hf (by first | omega | (intro h; omega) | exact Or.inl rfl | exact Or.inr rfl) (by first | omega | (intro h; omega) | exact Or.inl rfl | exact Or.inr rfl) (by first | omega | (intro h; omega) | exact Or.inl rfl | exact Or.inr rfl) hq1 (Nat.lt_succ_self _)
      · have d_153 := iNlt c_147
        refine ⟨tIn (by omega) (by omega), ?_⟩
        refine ⟨tIn (by omega) (by omega), ?_⟩
        refine ⟨tIn (by omega) (by omega), fun L_154 e_155 => ?_⟩
        unfold fModel_bury_75
        refine ⟨tIn (by omega) (by omega), fun L_156 e_157 => ?_⟩
        exact yModel_bury_84 (I0 := I0) (L0 := L0) (p1 := p1) hok hw ra hZ hR0 hq0 hq1 hp  _ hR hf (by first | omega | (intro h; omega) | exact Or.inl rfl | exact Or.inr rfl) (by first | omega | (intro h; omega) | exact Or.inl rfl | exact Or.inr rfl) (by first | omega | (intro h; omega) | exact Or.inl rfl | exact Or.inr rfl) hq1 (Nat.lt_succ_self _)
theorem y_Model_bury {D : va_G} {cA : FieldType → ClassId} {b : Nat} {E : State → Prop} {R : qRg} {o n : Nat} {sh : Nat → qC} {Rf : Nat → Nat → Option Nat} {I0 : Nat → Nat → Int32} {L0 : Nat → Nat → Int64} {post : Option Value → qS → Prop} {p1 : Int32} (hok : q_ok (qGG D cA b E)) (hw : WfModel (qGG D cA b E) n sh Rf o) (ra : RAModel R o) (hq0 : (0 : Int) ≤ p1.toInt ∧ p1.toInt ≤ 5) (hq1 : Pap I0 o) (hR : RI R I0) (hp : ∀ (I' : Nat → Nat → Int32) (L' : Nat → Nat → Int64), RI R I' → Fm (fun c => c = o + 48 ∨ c = o + 51 ∨ c = o + 58 ∨ c = o + 66) I0 I' → Kp wModel_bury I0 I' o → (Pap I' o) → post none (n, sh, Rf, I', L')) : Ev (qGG D cA b E) mModel_bury 1 (0, 0) 0 (lv_args 0 [.ref o, .int p1]) [] (n, sh, Rf, I0, L0) post :=
  yc_Model_bury (R := fzR R I0 o wModel_bury) hok hw (fzA ra hR _) fzZ (fzI hR) hq0 hq1 (fzI hR) (fun I' L' h1 h2 u0 => hp I' L' (fzB hR h1) h2 (fzP h1) u0)
def wModel_beginMonth : Nat → Bool := fun j => false
set_option maxHeartbeats 4000000 in
set_option maxRecDepth 20000 in
theorem yModel_beginMonth_36 {D : va_G} {cA : FieldType → ClassId} {b : Nat} {E : State → Prop} {R : qRg} {o n : Nat} {sh : Nat → qC} {Rf : Nat → Nat → Option Nat} {I0 : Nat → Nat → Int32} {L0 : Nat → Nat → Int64} {post : Option Value → qS → Prop} (hok : q_ok (qGG D cA b E)) (hw : WfModel (qGG D cA b E) n sh Rf o) (ra : RAModel R o) (hZ : Fz R I0 o wModel_beginMonth) (hR0 : RI R I0) (hq0 : Pap I0 o) (hp : ∀ (I' : Nat → Nat → Int32) (L' : Nat → Nat → Int64), RI R I' → Fm (fun c => c = o + 48 ∨ c = o + 51 ∨ c = o + 58 ∨ c = o + 66) I0 I' → (Pap I' o) → post none (n, sh, Rf, I', L')) : ∀ (k : Nat) {x1 : Int32} {I : Nat → Nat → Int32} {L : Nat → Nat → Int64}, RI R I → Fm (fun c => c = o + 48 ∨ c = o + 51 ∨ c = o + 58 ∨ c = o + 66) I0 I → ((0 : Int) ≤ x1.toInt ∧ x1.toInt ≤ 2000) → (Pap I o) → (2000 - x1.toInt).toNat < k → Ev (qGG D cA b E) mModel_beginMonth 2 (0, 0) 36 [(0, .ref o), (1, .int x1)] [] (n, sh, Rf, I, L) post := by
  intro k
  induction k with
  | zero =>
    intro x1 I L hR hf hi0 hi1 hm
    exact absurd hm (Nat.not_lt_zero _)
  | succ k ih =>
    intro x1 I L hR hf hi0 hi1 hm
    have g_1 : (0 : Int) ≤ (I o 57).toInt ∧ (I o 57).toInt ≤ 240 := hR.at0 ra 57 (by decide)
    have z_2 : (I o 57).toInt = (I0 o 57).toInt := by rw [hZ I 57 rfl hR]
    have g_3 : (0 : Int) ≤ (I o 104).toInt ∧ (I o 104).toInt ≤ 2000 := hR.at0 ra 104 (by decide)
    have z_4 : (I o 104).toInt = (I0 o 104).toInt := by rw [hZ I 104 rfl hR]
    have g_5 : (0 : Int) ≤ (I o 105).toInt ∧ (I o 105).toInt ≤ 4000 := hR.at0 ra 105 (by decide)
    have z_6 : (I o 105).toInt = (I0 o 105).toInt := by rw [hZ I 105 rfl hR]
    refine sModel_beginMonth_36 o n sh Rf I L post x1 hok hw ?_
    unfold fModel_beginMonth_36
    have g_7 : (0 : Int) ≤ (I o 104).toInt ∧ (I o 104).toInt ≤ 2000 := hR.at0 ra 104 (by decide)
    refine ⟨fun c_8 => ?_, fun c_8 => ?_⟩
    · have d_9 := iLe c_8
      exact (hp _ _ hR hf  hi1)
    · have d_10 := iNle c_8
      refine y_Model_forge2 hok hw ra (by first | omega | (intro h; omega) | exact Or.inl rfl | exact Or.inr rfl) hi1 hR (fun I_13 L_14 hR_15 fr_16 kp_17 u_12 => ⟨I_13, L_14, rfl, rfl, ?_⟩)
      have hf_18 : Fm (fun c => c = o + 48 ∨ c = o + 51 ∨ c = o + 58 ∨ c = o + 66) I0 I_13 := hf.call fr_16 (fun c hc => by first | exact hc | (dsimp only at hc ⊢; omega) | omega)
      have t_19 : (I_13 o 57).toInt = (I o 57).toInt := by rw [kp_17 57 rfl]
      have t_20 : (I_13 o 104).toInt = (I o 104).toInt := by rw [kp_17 104 rfl]
      have t_21 : (I_13 o 105).toInt = (I o 105).toInt := by rw [kp_17 105 rfl]
      have a_23 : (x1 + Int32.ofInt 1).toInt = x1.toInt + (1) := tIc (by omega) (by omega) (by decide) (by decide)
      generalize ez_22 : (x1 + Int32.ofInt 1) = z_22 at a_23 ⊢
      exact ih hR_15 hf_18 (by first | omega | (intro h; omega) | exact Or.inl rfl | exact Or.inr rfl) u_12 (by omega)
set_option maxHeartbeats 4000000 in
set_option maxRecDepth 20000 in
theorem yModel_beginMonth_2 {D : va_G} {cA : FieldType → ClassId} {b : Nat} {E : State → Prop} {R : qRg} {o n : Nat} {sh : Nat → qC} {Rf : Nat → Nat → Option Nat} {I0 : Nat → Nat → Int32} {L0 : Nat → Nat → Int64} {post : Option Value → qS → Prop} (hok : q_ok (qGG D cA b E)) (hw : WfModel (qGG D cA b E) n sh Rf o) (ra : RAModel R o) (hZ : Fz R I0 o wModel_beginMonth) (hR0 : RI R I0) (hq0 : Pap I0 o) (hp : ∀ (I' : Nat → Nat → Int32) (L' : Nat → Nat → Int64), RI R I' → Fm (fun c => c = o + 48 ∨ c = o + 51 ∨ c = o + 58 ∨ c = o + 66) I0 I' → (Pap I' o) → post none (n, sh, Rf, I', L')) : ∀ (k : Nat) {x1 : Int32} {I : Nat → Nat → Int32} {L : Nat → Nat → Int64}, RI R I → Fm (fun c => c = o + 48 ∨ c = o + 51 ∨ c = o + 58 ∨ c = o + 66) I0 I → ((0 : Int) ≤ x1.toInt ∧ x1.toInt ≤ 6) → (Pap I o) → (6 - x1.toInt).toNat < k → Ev (qGG D cA b E) mModel_beginMonth 2 (0, 0) 2 [(0, .ref o), (1, .int x1)] [] (n, sh, Rf, I, L) post := by
  intro k
  induction k with
  | zero =>
    intro x1 I L hR hf hi0 hi1 hm
    exact absurd hm (Nat.not_lt_zero _)
  | succ k ih =>
    intro x1 I L hR hf hi0 hi1 hm
    have g_24 : (0 : Int) ≤ (I o 57).toInt ∧ (I o 57).toInt ≤ 240 := hR.at0 ra 57 (by decide)
    have z_25 : (I o 57).toInt = (I0 o 57).toInt := by rw [hZ I 57 rfl hR]
    have g_26 : (0 : Int) ≤ (I o 104).toInt ∧ (I o 104).toInt ≤ 2000 := hR.at0 ra 104 (by decide)
    have z_27 : (I o 104).toInt = (I0 o 104).toInt := by rw [hZ I 104 rfl hR]
    have g_28 : (0 : Int) ≤ (I o 105).toInt ∧ (I o 105).toInt ≤ 4000 := hR.at0 ra 105 (by decide)
    have z_29 : (I o 105).toInt = (I0 o 105).toInt := by rw [hZ I 105 rfl hR]
    refine sModel_beginMonth_2 o n sh Rf I L post x1 hok hw ?_
    unfold fModel_beginMonth_2
    have g_30 : (0 : Int) ≤ (I o 66).toInt ∧ (I o 66).toInt ≤ 6 := hR.at0 ra 66 (by decide)
    refine ⟨fun c_31 => ?_, fun c_31 => ?_⟩
    · have d_32 := iLe c_31
      have l_33 : (0 : Int32).toInt = 0 := rfl
      exact yModel_beginMonth_36 (I0 := I0) (L0 := L0) hok hw ra hZ hR0 hq0 hp  _ hR hf (by first | omega | (intro h; omega) | exact Or.inl rfl | exact Or.inr rfl) hi1 (Nat.lt_succ_self _)
    · have d_34 := iNle c_31
      refine ⟨tIn (by omega) (by omega), ?_⟩
      have g_35 : (0 : Int) ≤ (I o 57).toInt ∧ (I o 57).toInt ≤ 240 := hR.at0 ra 57 (by decide)
      refine ⟨fun c_36 => ?_, fun c_36 => ?_⟩
      · have d_37 := iNe c_36
        unfold fModel_beginMonth_28
        have a_39 : (x1 + Int32.ofInt 1).toInt = x1.toInt + (1) := tIc (by omega) (by omega) (by decide) (by decide)
        generalize ez_38 : (x1 + Int32.ofInt 1) = z_38 at a_39 ⊢
        exact ih hR hf (by first | omega | (intro h; omega) | exact Or.inl rfl | exact Or.inr rfl) hi1 (by omega)
      · have d_40 := iEq c_36
        refine y_Model_bury hok hw ra (by first | omega | (intro h; omega) | exact Or.inl rfl | exact Or.inr rfl) hi1 hR (fun I_43 L_44 hR_45 fr_46 kp_47 u_42 => ⟨I_43, L_44, rfl, rfl, ?_⟩)
        have hf_48 : Fm (fun c => c = o + 48 ∨ c = o + 51 ∨ c = o + 58 ∨ c = o + 66) I0 I_43 := hf.call fr_46 (fun c hc => by first | exact hc | (dsimp only at hc ⊢; omega) | omega)
        have t_49 : (I_43 o 57).toInt = (I o 57).toInt := by rw [kp_47 57 rfl]
        have t_50 : (I_43 o 104).toInt = (I o 104).toInt := by rw [kp_47 104 rfl]
        have t_51 : (I_43 o 105).toInt = (I o 105).toInt := by rw [kp_47 105 rfl]
        have t_52 : (I_43 o 66).toInt = (I o 66).toInt := by rw [kp_47 66 rfl]
        unfold fModel_beginMonth_28
        have a_54 : (x1 + Int32.ofInt 1).toInt = x1.toInt + (1) := tIc (by omega) (by omega) (by decide) (by decide)
        generalize ez_53 : (x1 + Int32.ofInt 1) = z_53 at a_54 ⊢
        exact ih hR_45 hf_48 (by first | omega | (intro h; omega) | exact Or.inl rfl | exact Or.inr rfl) u_42 (by omega)
set_option maxHeartbeats 4000000 in
set_option maxRecDepth 20000 in
theorem yc_Model_beginMonth {D : va_G} {cA : FieldType → ClassId} {b : Nat} {E : State → Prop} {R : qRg} {o n : Nat} {sh : Nat → qC} {Rf : Nat → Nat → Option Nat} {I0 : Nat → Nat → Int32} {L0 : Nat → Nat → Int64} {post : Option Value → qS → Prop} (hok : q_ok (qGG D cA b E)) (hw : WfModel (qGG D cA b E) n sh Rf o) (ra : RAModel R o) (hZ : Fz R I0 o wModel_beginMonth) (hR0 : RI R I0) (hq0 : Pap I0 o) (hR : RI R I0) (hp : ∀ (I' : Nat → Nat → Int32) (L' : Nat → Nat → Int64), RI R I' → Fm (fun c => c = o + 48 ∨ c = o + 51 ∨ c = o + 58 ∨ c = o + 66) I0 I' → (Pap I' o) → post none (n, sh, Rf, I', L')) : Ev (qGG D cA b E) mModel_beginMonth 2 (0, 0) 0 (lv_args 0 [.ref o]) [] (n, sh, Rf, I0, L0) post := by
  have hf : Fm (fun c => c = o + 48 ∨ c = o + 51 ∨ c = o + 58 ∨ c = o + 66) I0 I0 := Fm.rf
  have g_55 : (0 : Int) ≤ (I0 o 57).toInt ∧ (I0 o 57).toInt ≤ 240 := hR.at0 ra 57 (by decide)
  have g_56 : (0 : Int) ≤ (I0 o 104).toInt ∧ (I0 o 104).toInt ≤ 2000 := hR.at0 ra 104 (by decide)
  have g_57 : (0 : Int) ≤ (I0 o 105).toInt ∧ (I0 o 105).toInt ≤ 4000 := hR.at0 ra 105 (by decide)
  refine sModel_beginMonth_0 o n sh Rf I0 L0 post  hok hw ?_
  unfold fModel_beginMonth_0
  have l_58 : (0 : Int32).toInt = 0 := rfl
  exact yModel_beginMonth_2 (I0 := I0) (L0 := L0) hok hw ra hZ hR0 hq0 hp  _ hR hf (by first | omega | (intro h; omega) | exact Or.inl rfl | exact Or.inr rfl) hq0 (Nat.lt_succ_self _)
theorem y_Model_beginMonth {D : va_G} {cA : FieldType → ClassId} {b : Nat} {E : State → Prop} {R : qRg} {o n : Nat} {sh : Nat → qC} {Rf : Nat → Nat → Option Nat} {I0 : Nat → Nat → Int32} {L0 : Nat → Nat → Int64} {post : Option Value → qS → Prop} (hok : q_ok (qGG D cA b E)) (hw : WfModel (qGG D cA b E) n sh Rf o) (ra : RAModel R o) (hq0 : Pap I0 o) (hR : RI R I0) (hp : ∀ (I' : Nat → Nat → Int32) (L' : Nat → Nat → Int64), RI R I' → Fm (fun c => c = o + 48 ∨ c = o + 51 ∨ c = o + 58 ∨ c = o + 66) I0 I' → Kp wModel_beginMonth I0 I' o → (Pap I' o) → post none (n, sh, Rf, I', L')) : Ev (qGG D cA b E) mModel_beginMonth 2 (0, 0) 0 (lv_args 0 [.ref o]) [] (n, sh, Rf, I0, L0) post :=
  yc_Model_beginMonth (R := fzR R I0 o wModel_beginMonth) hok hw (fzA ra hR _) fzZ (fzI hR) hq0 (fzI hR) (fun I' L' h1 h2 u0 => hp I' L' (fzB hR h1) h2 (fzP h1) u0)
def wModel_bounded : Nat → Bool := fun j => false
set_option maxHeartbeats 4000000 in
set_option maxRecDepth 20000 in
theorem yc_Model_bounded {D : va_G} {cA : FieldType → ClassId} {b : Nat} {E : State → Prop} {R : qRg} {o n : Nat} {sh : Nat → qC} {Rf : Nat → Nat → Option Nat} {I0 : Nat → Nat → Int32} {L0 : Nat → Nat → Int64} {post : Option Value → qS → Prop} {p1 : Int32} {p2 : Int32} (hok : q_ok (qGG D cA b E)) (hw : WfModel (qGG D cA b E) n sh Rf o) (ra : RAModel R o) (hZ : Fz R I0 o wModel_bounded) (hR0 : RI R I0) (hq0 : (0 : Int) ≤ p1.toInt ∧ p1.toInt ≤ 5) (hq1 : (0 : Int) ≤ p2.toInt ∧ p2.toInt ≤ 9) (hq2 : p1.toInt ≠ 4) (hq3 : MTd I0 o) (hR : RI R I0) (hp : ∀ (r : Int32) (I' : Nat → Nat → Int32) (L' : Nat → Nat → Int64), RI R I' → Fm (fun c => c = o + 34) I0 I' → (MTd I' o) → post (some (.int r)) (n, sh, Rf, I', L')) : Ev (qGG D cA b E) mModel_bounded 5 (0, 0) 0 (lv_args 0 [.ref o, .int p1, .int p2]) [] (n, sh, Rf, I0, L0) post := by
  have hf : Fm (fun c => c = o + 34) I0 I0 := Fm.rf
  refine sModel_bounded_0 o n sh Rf I0 L0 post p1 p2 hok hw ?_
  unfold fModel_bounded_0
  refine y_Model_told hok hw ra (by first | omega | (intro h; omega) | exact Or.inl rfl | exact Or.inr rfl) (by first | omega | (intro h; omega) | exact Or.inl rfl | exact Or.inr rfl) (by first | omega | (intro h; omega) | exact Or.inl rfl | exact Or.inr rfl) hq3 hR (fun r_1 I_3 L_4 hR_5 fr_6 kp_7 u_2 => ⟨r_1, I_3, L_4, rfl, rfl, ?_⟩)
  have hf_8 : Fm (fun c => c = o + 34) I0 I_3 := hf.call fr_6 (fun c hc => by first | exact hc | (dsimp only at hc ⊢; omega) | omega)
  have l_9 : (4 : Int32).toInt = 4 := rfl
  refine ⟨fun c_10 => ?_, fun c_10 => ?_⟩
  · have d_11 := iNe c_10
    unfold fModel_bounded_20
    have l_12 : (9999 : Int32).toInt = 9999 := rfl
    have l_13 : (0 : Int32).toInt = 0 := rfl
    refine ⟨fun c_14 => ?_, fun c_14 => ?_⟩
    · have d_15 := iLe c_14
      refine ⟨fun c_16 => ?_, fun c_16 => ?_⟩
      · have d_17 := iLe c_16
        exact (hp _ _ _ hR_5 hf_8  u_2)
      · have d_18 := iNle c_16
        exact (hp _ _ _ hR_5 hf_8  u_2)
    · have d_19 := iNle c_14
      exact (hp _ _ _ hR_5 hf_8  u_2)
  · have d_20 := iEq c_10
    unfold fModel_bounded_20
    have l_21 : (100 : Int32).toInt = 100 := rfl
    have l_22 : (0 : Int32).toInt = 0 := rfl
    refine ⟨fun c_23 => ?_, fun c_23 => ?_⟩
    · have d_24 := iLe c_23
      refine ⟨fun c_25 => ?_, fun c_25 => ?_⟩
      · have d_26 := iLe c_25
        exact (hp _ _ _ hR_5 hf_8  u_2)
      · have d_27 := iNle c_25
        exact (hp _ _ _ hR_5 hf_8  u_2)
    · have d_28 := iNle c_23
      exact (hp _ _ _ hR_5 hf_8  u_2)
theorem y_Model_bounded {D : va_G} {cA : FieldType → ClassId} {b : Nat} {E : State → Prop} {R : qRg} {o n : Nat} {sh : Nat → qC} {Rf : Nat → Nat → Option Nat} {I0 : Nat → Nat → Int32} {L0 : Nat → Nat → Int64} {post : Option Value → qS → Prop} {p1 : Int32} {p2 : Int32} (hok : q_ok (qGG D cA b E)) (hw : WfModel (qGG D cA b E) n sh Rf o) (ra : RAModel R o) (hq0 : (0 : Int) ≤ p1.toInt ∧ p1.toInt ≤ 5) (hq1 : (0 : Int) ≤ p2.toInt ∧ p2.toInt ≤ 9) (hq2 : p1.toInt ≠ 4) (hq3 : MTd I0 o) (hR : RI R I0) (hp : ∀ (r : Int32) (I' : Nat → Nat → Int32) (L' : Nat → Nat → Int64), RI R I' → Fm (fun c => c = o + 34) I0 I' → Kp wModel_bounded I0 I' o → (MTd I' o) → post (some (.int r)) (n, sh, Rf, I', L')) : Ev (qGG D cA b E) mModel_bounded 5 (0, 0) 0 (lv_args 0 [.ref o, .int p1, .int p2]) [] (n, sh, Rf, I0, L0) post :=
  yc_Model_bounded (R := fzR R I0 o wModel_bounded) hok hw (fzA ra hR _) fzZ (fzI hR) hq0 hq1 hq2 hq3 (fzI hR) (fun r I' L' h1 h2 u0 => hp r I' L' (fzB hR h1) h2 (fzP h1) u0)
def wModel_tellMonth : Nat → Bool := fun j => Nat.beq j 117 || Nat.beq j 118 || Nat.beq j 119 || Nat.beq j 120 || false
set_option maxHeartbeats 4000000 in
set_option maxRecDepth 20000 in
theorem yc_Model_tellMonth {D : va_G} {cA : FieldType → ClassId} {b : Nat} {E : State → Prop} {R : qRg} {o n : Nat} {sh : Nat → qC} {Rf : Nat → Nat → Option Nat} {I0 : Nat → Nat → Int32} {L0 : Nat → Nat → Int64} {post : Option Value → qS → Prop} (hok : q_ok (qGG D cA b E)) (hw : WfModel (qGG D cA b E) n sh Rf o) (ra : RAModel R o) (hz117 : R.2 117 = true) (hz118 : R.2 118 = true) (hz119 : R.2 119 = true) (hz120 : R.2 120 = true) (hZ : Fz R I0 o wModel_tellMonth) (hR0 : RI R I0) (hq0 : (I0 o 106).toInt ≠ 4) (hq1 : MTd I0 o) (hR : RI R I0) (hp : ∀ (I' : Nat → Nat → Int32) (L' : Nat → Nat → Int64), RI R I' → Fm (fun c => c = o ∨ c = o + 34) I0 I' → (MTd I' o) → post none (n, sh, Rf, I', L')) : Ev (qGG D cA b E) mModel_tellMonth 6 (0, 0) 0 (lv_args 0 [.ref o]) [] (n, sh, Rf, I0, L0) post := by
  have hf : Fm (fun c => c = o ∨ c = o + 34) I0 I0 := Fm.rf
  have g_1 : (0 : Int) ≤ (I0 o 106).toInt ∧ (I0 o 106).toInt ≤ 5 := hR.at0 ra 106 (by decide)
  refine sModel_tellMonth_0 o n sh Rf I0 L0 post  hok hw ?_
  unfold fModel_tellMonth_0
  have g_2 : (0 : Int) ≤ (I0 o 106).toInt ∧ (I0 o 106).toInt ≤ 5 := hR.at0 ra 106 (by decide)
  have l_3 : (1 : Int32).toInt = 1 := rfl
  refine y_Model_bounded hok hw ra (by first | omega | (intro h; omega) | exact Or.inl rfl | exact Or.inr rfl) (by first | omega | (intro h; omega) | exact Or.inl rfl | exact Or.inr rfl) (by first | omega | (intro h; omega) | exact Or.inl rfl | exact Or.inr rfl) hq1 hR (fun r_4 I_6 L_7 hR_8 fr_9 kp_10 u_5 => ⟨r_4, I_6, L_7, rfl, rfl, ?_⟩)
  have hf_11 : Fm (fun c => c = o ∨ c = o + 34) I0 I_6 := hf.call fr_9 (fun c hc => by first | exact hc | (dsimp only at hc ⊢; omega) | omega)
  have t_12 : (I_6 o 106).toInt = (I0 o 106).toInt := by rw [kp_10 106 rfl]
  refine fun I_13 e_14 => ?_
  have hR_15 : RI R I_13 := hR_8.up0 (k := 107) ra (by decide) (Or.inr hz117) e_14 (i_lo _) (i_hi _)
  have hf_16 : Fm (fun c => c = o ∨ c = o + 34) I0 I_13 := hf_11.set (by first | rfl | omega | (dsimp only; omega)) e_14
  have t_17 : (I_13 o 106).toInt = (I_6 o 106).toInt := by rw [← e_14, q_u_k (by decide)]
  have k_18 : MTd I_13 o := u_5.fr (by rw [← e_14]; exact q_u_ne (by omega)) (by rw [← e_14]; exact q_u_ne (by omega)) (by rw [← e_14]; exact q_u_ne (by omega))
  have g_19 : (0 : Int) ≤ (I_13 o 106).toInt ∧ (I_13 o 106).toInt ≤ 5 := hR_15.at0 ra 106 (by decide)
  have l_20 : (2 : Int32).toInt = 2 := rfl
  refine y_Model_bounded hok hw ra (by first | omega | (intro h; omega) | exact Or.inl rfl | exact Or.inr rfl) (by first | omega | (intro h; omega) | exact Or.inl rfl | exact Or.inr rfl) (by first | omega | (intro h; omega) | exact Or.inl rfl | exact Or.inr rfl) k_18 hR_15 (fun r_21 I_23 L_24 hR_25 fr_26 kp_27 u_22 => ⟨r_21, I_23, L_24, rfl, rfl, ?_⟩)
  have hf_28 : Fm (fun c => c = o ∨ c = o + 34) I0 I_23 := hf_16.call fr_26 (fun c hc => by first | exact hc | (dsimp only at hc ⊢; omega) | omega)
  have t_29 : (I_23 o 106).toInt = (I_13 o 106).toInt := by rw [kp_27 106 rfl]
  refine fun I_30 e_31 => ?_
  have hR_32 : RI R I_30 := hR_25.up0 (k := 108) ra (by decide) (Or.inr hz118) e_31 (i_lo _) (i_hi _)
  have hf_33 : Fm (fun c => c = o ∨ c = o + 34) I0 I_30 := hf_28.set (by first | rfl | omega | (dsimp only; omega)) e_31
  have t_34 : (I_30 o 106).toInt = (I_23 o 106).toInt := by rw [← e_31, q_u_k (by decide)]
  have k_35 : MTd I_30 o := u_22.fr (by rw [← e_31]; exact q_u_ne (by omega)) (by rw [← e_31]; exact q_u_ne (by omega)) (by rw [← e_31]; exact q_u_ne (by omega))
  have g_36 : (0 : Int) ≤ (I_30 o 106).toInt ∧ (I_30 o 106).toInt ≤ 5 := hR_32.at0 ra 106 (by decide)
  have l_37 : (3 : Int32).toInt = 3 := rfl
  refine y_Model_bounded hok hw ra (by first | omega | (intro h; omega) | exact Or.inl rfl | exact Or.inr rfl) (by first | omega | (intro h; omega) | exact Or.inl rfl | exact Or.inr rfl) (by first | omega | (intro h; omega) | exact Or.inl rfl | exact Or.inr rfl) k_35 hR_32 (fun r_38 I_40 L_41 hR_42 fr_43 kp_44 u_39 => ⟨r_38, I_40, L_41, rfl, rfl, ?_⟩)
  have hf_45 : Fm (fun c => c = o ∨ c = o + 34) I0 I_40 := hf_33.call fr_43 (fun c hc => by first | exact hc | (dsimp only at hc ⊢; omega) | omega)
  have t_46 : (I_40 o 106).toInt = (I_30 o 106).toInt := by rw [kp_44 106 rfl]
  refine fun I_47 e_48 => ?_
  have hR_49 : RI R I_47 := hR_42.up0 (k := 109) ra (by decide) (Or.inr hz119) e_48 (i_lo _) (i_hi _)
  have hf_50 : Fm (fun c => c = o ∨ c = o + 34) I0 I_47 := hf_45.set (by first | rfl | omega | (dsimp only; omega)) e_48
  have t_51 : (I_47 o 106).toInt = (I_40 o 106).toInt := by rw [← e_48, q_u_k (by decide)]
  have k_52 : MTd I_47 o := u_39.fr (by rw [← e_48]; exact q_u_ne (by omega)) (by rw [← e_48]; exact q_u_ne (by omega)) (by rw [← e_48]; exact q_u_ne (by omega))
  have g_53 : (0 : Int) ≤ (I_47 o 106).toInt ∧ (I_47 o 106).toInt ≤ 5 := hR_49.at0 ra 106 (by decide)
  have l_54 : (4 : Int32).toInt = 4 := rfl
  refine y_Model_bounded hok hw ra (by first | omega | (intro h; omega) | exact Or.inl rfl | exact Or.inr rfl) (by first | omega | (intro h; omega) | exact Or.inl rfl | exact Or.inr rfl) (by first | omega | (intro h; omega) | exact Or.inl rfl | exact Or.inr rfl) k_52 hR_49 (fun r_55 I_57 L_58 hR_59 fr_60 kp_61 u_56 => ⟨r_55, I_57, L_58, rfl, rfl, ?_⟩)
  have hf_62 : Fm (fun c => c = o ∨ c = o + 34) I0 I_57 := hf_50.call fr_60 (fun c hc => by first | exact hc | (dsimp only at hc ⊢; omega) | omega)
  have t_63 : (I_57 o 106).toInt = (I_47 o 106).toInt := by rw [kp_61 106 rfl]
  refine fun I_64 e_65 => ?_
  have hR_66 : RI R I_64 := hR_59.up0 (k := 110) ra (by decide) (Or.inr hz120) e_65 (i_lo _) (i_hi _)
  have hf_67 : Fm (fun c => c = o ∨ c = o + 34) I0 I_64 := hf_62.set (by first | rfl | omega | (dsimp only; omega)) e_65
  have t_68 : (I_64 o 106).toInt = (I_57 o 106).toInt := by rw [← e_65, q_u_k (by decide)]
  have k_69 : MTd I_64 o := u_56.fr (by rw [← e_65]; exact q_u_ne (by omega)) (by rw [← e_65]; exact q_u_ne (by omega)) (by rw [← e_65]; exact q_u_ne (by omega))
  exact (hp _ _ hR_66 hf_67  k_69)
theorem y_Model_tellMonth {D : va_G} {cA : FieldType → ClassId} {b : Nat} {E : State → Prop} {R : qRg} {o n : Nat} {sh : Nat → qC} {Rf : Nat → Nat → Option Nat} {I0 : Nat → Nat → Int32} {L0 : Nat → Nat → Int64} {post : Option Value → qS → Prop} (hok : q_ok (qGG D cA b E)) (hw : WfModel (qGG D cA b E) n sh Rf o) (ra : RAModel R o) (hz117 : R.2 117 = true) (hz118 : R.2 118 = true) (hz119 : R.2 119 = true) (hz120 : R.2 120 = true) (hq0 : (I0 o 106).toInt ≠ 4) (hq1 : MTd I0 o) (hR : RI R I0) (hp : ∀ (I' : Nat → Nat → Int32) (L' : Nat → Nat → Int64), RI R I' → Fm (fun c => c = o ∨ c = o + 34) I0 I' → Kp wModel_tellMonth I0 I' o → (MTd I' o) → post none (n, sh, Rf, I', L')) : Ev (qGG D cA b E) mModel_tellMonth 6 (0, 0) 0 (lv_args 0 [.ref o]) [] (n, sh, Rf, I0, L0) post :=
  yc_Model_tellMonth (R := fzR R I0 o wModel_tellMonth) hok hw (fzA ra hR _) (fzT hz117 rfl) (fzT hz118 rfl) (fzT hz119 rfl) (fzT hz120 rfl) fzZ (fzI hR) hq0 hq1 (fzI hR) (fun I' L' h1 h2 u0 => hp I' L' (fzB hR h1) h2 (fzP h1) u0)
def wModel_rateFor : Nat → Bool := fun j => Nat.beq j 61 || Nat.beq j 62 || Nat.beq j 63 || false
set_option maxHeartbeats 4000000 in
set_option maxRecDepth 20000 in
theorem yc_Model_rateFor {D : va_G} {cA : FieldType → ClassId} {b : Nat} {E : State → Prop} {R : qRg} {o n : Nat} {sh : Nat → qC} {Rf : Nat → Nat → Option Nat} {I0 : Nat → Nat → Int32} {L0 : Nat → Nat → Int64} {post : Option Value → qS → Prop} {p1 : Int32} {p2 : Int32} (hok : q_ok (qGG D cA b E)) (hw : WfModel (qGG D cA b E) n sh Rf o) (ra : RAModel R o) (hz61 : R.2 61 = true) (hz62 : R.2 62 = true) (hz63 : R.2 63 = true) (hZ : Fz R I0 o wModel_rateFor) (hR0 : RI R I0) (hq0 : (0 : Int) ≤ p1.toInt ∧ p1.toInt ≤ 2) (hq1 : (I0 o 106).toInt ≠ 4) (hq2 : MTd I0 o) (hR : RI R I0) (hp : ∀ (r : Int32) (I' : Nat → Nat → Int32) (L' : Nat → Nat → Int64), RI R I' → Fm (fun c => c = o ∨ c = o + 34) I0 I' → (MTd I' o) → post (some (.int r)) (n, sh, Rf, I', L')) : Ev (qGG D cA b E) mModel_rateFor 6 (0, 0) 0 (lv_args 0 [.ref o, .int p1, .int p2]) [] (n, sh, Rf, I0, L0) post := by
  have hf : Fm (fun c => c = o ∨ c = o + 34) I0 I0 := Fm.rf
  have g_1 : (0 : Int) ≤ (I0 o 106).toInt ∧ (I0 o 106).toInt ≤ 5 := hR.at0 ra 106 (by decide)
  refine sModel_rateFor_0 o n sh Rf I0 L0 post p1 p2 hok hw ?_
  unfold fModel_rateFor_0
  refine ⟨tIn (by omega) (by omega), ?_⟩
  refine fun I_2 e_3 => ?_
  have hR_4 : RI R I_2 := hR.up0 (k := 51) ra (by decide) (Or.inr hz61) e_3 (i_lo _) (i_hi _)
  have hf_5 : Fm (fun c => c = o ∨ c = o + 34) I0 I_2 := hf.set (by first | rfl | omega | (dsimp only; omega)) e_3
  have t_6 : (I_2 o 106).toInt = (I0 o 106).toInt := by rw [← e_3, q_u_k (by decide)]
  have k_7 : MTd I_2 o := hq2.fr (by rw [← e_3]; exact q_u_ne (by omega)) (by rw [← e_3]; exact q_u_ne (by omega)) (by rw [← e_3]; exact q_u_ne (by omega))
  have g_8 : (0 : Int) ≤ (I_2 o 34).toInt ∧ (I_2 o 34).toInt ≤ 1 := hR_4.at0 ra 34 (by decide)
  have l_9 : (3 : Int32).toInt = 3 := rfl
  have a_10 : (3 * (I_2 o 34)).toInt = 3 * (I_2 o 34).toInt := tMulL rfl (by omega) (by omega)
  have a_11 : ((3 * (I_2 o 34)) + p1).toInt = (3 * (I_2 o 34)).toInt + p1.toInt := tAdd (by omega) (by omega)
  refine ⟨tIn (by omega) (by omega), ?_⟩
  have l_12 : (0 : Int32).toInt = 0 := rfl
  refine ⟨fun c_13 => ?_, fun c_13 => ?_⟩
  · have d_14 := iNe c_13
    refine ⟨tIn (by omega) (by omega), ?_⟩
    refine ⟨fun h => absurd (iEq h) (by have : (0 : Int32).toInt = 0 := rfl; omega), ?_⟩
    unfold fModel_rateFor_43
    refine fun I_15 e_16 => ?_
    have hR_17 : RI R I_15 := hR_4.up0 (k := 52) ra (by decide) (Or.inr hz62) e_16 (i_lo _) (i_hi _)
    have hf_18 : Fm (fun c => c = o ∨ c = o + 34) I0 I_15 := hf_5.set (by first | rfl | omega | (dsimp only; omega)) e_16
    have t_19 : (I_15 o 106).toInt = (I_2 o 106).toInt := by rw [← e_16, q_u_k (by decide)]
    have t_20 : (I_15 o 34).toInt = (I_2 o 34).toInt := by rw [← e_16, q_u_k (by decide)]
    have k_21 : MTd I_15 o := k_7.fr (by rw [← e_16]; exact q_u_ne (by omega)) (by rw [← e_16]; exact q_u_ne (by omega)) (by rw [← e_16]; exact q_u_ne (by omega))
    refine fun I_22 e_23 => ?_
    have hR_24 : RI R I_22 := hR_17.up0 (k := 53) ra (by decide) (Or.inr hz63) e_23 (i_lo _) (i_hi _)
    have hf_25 : Fm (fun c => c = o ∨ c = o + 34) I0 I_22 := hf_18.set (by first | rfl | omega | (dsimp only; omega)) e_23
    have t_26 : (I_22 o 106).toInt = (I_15 o 106).toInt := by rw [← e_23, q_u_k (by decide)]
    have t_27 : (I_22 o 34).toInt = (I_15 o 34).toInt := by rw [← e_23, q_u_k (by decide)]
    have k_28 : MTd I_22 o := k_21.fr (by rw [← e_23]; exact q_u_ne (by omega)) (by rw [← e_23]; exact q_u_ne (by omega)) (by rw [← e_23]; exact q_u_ne (by omega))
    have g_29 : (0 : Int) ≤ (I_22 o 106).toInt ∧ (I_22 o 106).toInt ≤ 5 := hR_24.at0 ra 106 (by decide)
    refine y_Model_bounded hok hw ra (by first | omega | (intro h; omega) | exact Or.inl rfl | exact Or.inr rfl) (by first | omega | (intro h; omega) | exact Or.inl rfl | exact Or.inr rfl) (by first | omega | (intro h; omega) | exact Or.inl rfl | exact Or.inr rfl) k_28 hR_24 (fun r_30 I_32 L_33 hR_34 fr_35 kp_36 u_31 => ⟨r_30, I_32, L_33, rfl, rfl, ?_⟩)
    have hf_37 : Fm (fun c => c = o ∨ c = o + 34) I0 I_32 := hf_25.call fr_35 (fun c hc => by first | exact hc | (dsimp only at hc ⊢; omega) | omega)
    have t_38 : (I_32 o 106).toInt = (I_22 o 106).toInt := by rw [kp_36 106 rfl]
    have t_39 : (I_32 o 34).toInt = (I_22 o 34).toInt := by rw [kp_36 34 rfl]
    exact (hp _ _ _ hR_34 hf_37  u_31)
  · have d_40 := iEq c_13
    unfold fModel_rateFor_43
    have l_41 : (9999 : Int32).toInt = 9999 := rfl
    refine fun I_42 e_43 => ?_
    have hR_44 : RI R I_42 := hR_4.up0 (k := 52) ra (by decide) (Or.inr hz62) e_43 (i_lo _) (i_hi _)
    have hf_45 : Fm (fun c => c = o ∨ c = o + 34) I0 I_42 := hf_5.set (by first | rfl | omega | (dsimp only; omega)) e_43
    have t_46 : (I_42 o 106).toInt = (I_2 o 106).toInt := by rw [← e_43, q_u_k (by decide)]
    have t_47 : (I_42 o 34).toInt = (I_2 o 34).toInt := by rw [← e_43, q_u_k (by decide)]
    have k_48 : MTd I_42 o := k_7.fr (by rw [← e_43]; exact q_u_ne (by omega)) (by rw [← e_43]; exact q_u_ne (by omega)) (by rw [← e_43]; exact q_u_ne (by omega))
    refine fun I_49 e_50 => ?_
    have hR_51 : RI R I_49 := hR_44.up0 (k := 53) ra (by decide) (Or.inr hz63) e_50 (i_lo _) (i_hi _)
    have hf_52 : Fm (fun c => c = o ∨ c = o + 34) I0 I_49 := hf_45.set (by first | rfl | omega | (dsimp only; omega)) e_50
    have t_53 : (I_49 o 106).toInt = (I_42 o 106).toInt := by rw [← e_50, q_u_k (by decide)]
    have t_54 : (I_49 o 34).toInt = (I_42 o 34).toInt := by rw [← e_50, q_u_k (by decide)]
    have k_55 : MTd I_49 o := k_48.fr (by rw [← e_50]; exact q_u_ne (by omega)) (by rw [← e_50]; exact q_u_ne (by omega)) (by rw [← e_50]; exact q_u_ne (by omega))
    have g_56 : (0 : Int) ≤ (I_49 o 106).toInt ∧ (I_49 o 106).toInt ≤ 5 := hR_51.at0 ra 106 (by decide)
    refine y_Model_bounded hok hw ra (by first | omega | (intro h; omega) | exact Or.inl rfl | exact Or.inr rfl) (by first | omega | (intro h; omega) | exact Or.inl rfl | exact Or.inr rfl) (by first | omega | (intro h; omega) | exact Or.inl rfl | exact Or.inr rfl) k_55 hR_51 (fun r_57 I_59 L_60 hR_61 fr_62 kp_63 u_58 => ⟨r_57, I_59, L_60, rfl, rfl, ?_⟩)
    have hf_64 : Fm (fun c => c = o ∨ c = o + 34) I0 I_59 := hf_52.call fr_62 (fun c hc => by first | exact hc | (dsimp only at hc ⊢; omega) | omega)
    have t_65 : (I_59 o 106).toInt = (I_49 o 106).toInt := by rw [kp_63 106 rfl]
    have t_66 : (I_59 o 34).toInt = (I_49 o 34).toInt := by rw [kp_63 34 rfl]
    exact (hp _ _ _ hR_61 hf_64  u_58)
theorem y_Model_rateFor {D : va_G} {cA : FieldType → ClassId} {b : Nat} {E : State → Prop} {R : qRg} {o n : Nat} {sh : Nat → qC} {Rf : Nat → Nat → Option Nat} {I0 : Nat → Nat → Int32} {L0 : Nat → Nat → Int64} {post : Option Value → qS → Prop} {p1 : Int32} {p2 : Int32} (hok : q_ok (qGG D cA b E)) (hw : WfModel (qGG D cA b E) n sh Rf o) (ra : RAModel R o) (hz61 : R.2 61 = true) (hz62 : R.2 62 = true) (hz63 : R.2 63 = true) (hq0 : (0 : Int) ≤ p1.toInt ∧ p1.toInt ≤ 2) (hq1 : (I0 o 106).toInt ≠ 4) (hq2 : MTd I0 o) (hR : RI R I0) (hp : ∀ (r : Int32) (I' : Nat → Nat → Int32) (L' : Nat → Nat → Int64), RI R I' → Fm (fun c => c = o ∨ c = o + 34) I0 I' → Kp wModel_rateFor I0 I' o → (MTd I' o) → post (some (.int r)) (n, sh, Rf, I', L')) : Ev (qGG D cA b E) mModel_rateFor 6 (0, 0) 0 (lv_args 0 [.ref o, .int p1, .int p2]) [] (n, sh, Rf, I0, L0) post :=
  yc_Model_rateFor (R := fzR R I0 o wModel_rateFor) hok hw (fzA ra hR _) (fzT hz61 rfl) (fzT hz62 rfl) (fzT hz63 rfl) fzZ (fzI hR) hq0 hq1 hq2 (fzI hR) (fun r I' L' h1 h2 u0 => hp r I' L' (fzB hR h1) h2 (fzP h1) u0)
def wModel_classes : Nat → Bool := fun j => Nat.beq j 63 || Nat.beq j 64 || Nat.beq j 65 || Nat.beq j 66 || false
set_option maxHeartbeats 4000000 in
set_option maxRecDepth 20000 in
theorem yModel_classes_76 {D : va_G} {cA : FieldType → ClassId} {b : Nat} {E : State → Prop} {R : qRg} {o n : Nat} {sh : Nat → qC} {Rf : Nat → Nat → Option Nat} {I0 : Nat → Nat → Int32} {L0 : Nat → Nat → Int64} {post : Option Value → qS → Prop} (hok : q_ok (qGG D cA b E)) (hw : WfModel (qGG D cA b E) n sh Rf o) (ra : RAModel R o) (hz63 : R.2 63 = true) (hz64 : R.2 64 = true) (hz65 : R.2 65 = true) (hz66 : R.2 66 = true) (hZ : Fz R I0 o wModel_classes) (hR0 : RI R I0) (hq0 : (I0 o 106).toInt ≠ 4) (hq1 : MTd I0 o) (hp : ∀ (I' : Nat → Nat → Int32) (L' : Nat → Nat → Int64), RI R I' → Fm (fun c => c = o ∨ c = o + 34 ∨ c = o + 57) I0 I' → (MTd I' o) → post none (n, sh, Rf, I', L')) {k2 : Nat} (ho2 : ∀ {x1 : Int32} {I : Nat → Nat → Int32} {L : Nat → Nat → Int64}, RI R I → Fm (fun c => c = o ∨ c = o + 34 ∨ c = o + 57) I0 I → ((0 : Int) ≤ x1.toInt ∧ x1.toInt ≤ 2000) → (MTd I o) → (2000 - x1.toInt).toNat < k2 → Ev (qGG D cA b E) mModel_classes 5 (0, 0) 2 [(0, .ref o), (1, .int x1)] [] (n, sh, Rf, I, L) post) : ∀ (k : Nat) {x1 : Int32} {x2 : Int32} {I : Nat → Nat → Int32} {L : Nat → Nat → Int64}, RI R I → Fm (fun c => c = o ∨ c = o + 34 ∨ c = o + 57) I0 I → ((0 : Int) ≤ x2.toInt ∧ x2.toInt ≤ 5) → ((0 : Int) ≤ x1.toInt ∧ x1.toInt ≤ 1999) → ((2000 - x1.toInt).toNat < k2 + 1) → (MTd I o) → (5 - x2.toInt).toNat < k → Ev (qGG D cA b E) mModel_classes 5 (0, 0) 76 [(0, .ref o), (1, .int x1), (2, .int x2)] [] (n, sh, Rf, I, L) post := by
  intro k
  induction k with
  | zero =>
    intro x1 x2 I L hR hf hi0 hi1 hi2 hi3 hm
    exact absurd hm (Nat.not_lt_zero _)
  | succ k ih =>
    intro x1 x2 I L hR hf hi0 hi1 hi2 hi3 hm
    have g_1 : (0 : Int) ≤ (I o 106).toInt ∧ (I o 106).toInt ≤ 5 := hR.at0 ra 106 (by decide)
    have z_2 : (I o 106).toInt = (I0 o 106).toInt := by rw [hZ I 106 rfl hR]
    have g_3 : (0 : Int) ≤ (I o 57).toInt ∧ (I o 57).toInt ≤ 240 := hR.at0 ra 57 (by decide)
    have z_4 : (I o 57).toInt = (I0 o 57).toInt := by rw [hZ I 57 rfl hR]
    have g_5 : (0 : Int) ≤ (I o 104).toInt ∧ (I o 104).toInt ≤ 2000 := hR.at0 ra 104 (by decide)
    have z_6 : (I o 104).toInt = (I0 o 104).toInt := by rw [hZ I 104 rfl hR]
    have g_7 : (0 : Int) ≤ (I o 105).toInt ∧ (I o 105).toInt ≤ 4000 := hR.at0 ra 105 (by decide)
    have z_8 : (I o 105).toInt = (I0 o 105).toInt := by rw [hZ I 105 rfl hR]
    refine sModel_classes_76 o n sh Rf I L post x1 x2 hok hw ?_
    unfold fModel_classes_76
    have g_9 : (0 : Int) ≤ (I o 106).toInt ∧ (I o 106).toInt ≤ 5 := hR.at0 ra 106 (by decide)
    refine ⟨tIn (by omega) (by omega), ?_⟩
    have g_10 : (0 : Int) ≤ (I (o + 28) ((I o 106) : Int32).toNatClampNeg).toInt ∧ (I (o + 28) ((I o 106) : Int32).toNatClampNeg).toInt ≤ 5 := hR.at ra 28 _ (by decide)
    refine ⟨fun c_11 => ?_, fun c_11 => ?_⟩
    · have d_12 := iLe c_11
      unfold fModel_classes_109
      refine ⟨tIn (by omega) (by omega), fun I_13 e_14 => ?_⟩
      have hR_15 : RI R I_13 := hR.up ra 57 (by decide) (Or.inl rfl) e_14 (i_lo _) (i_hi _)
      have hf_16 : Fm (fun c => c = o ∨ c = o + 34 ∨ c = o + 57) I0 I_13 := hf.set (by first | rfl | omega | (dsimp only; omega)) e_14
      have t_17 : (I_13 o 106).toInt = (I o 106).toInt := by rw [← e_14, q_u_ne (by omega)]
      have t_18 : (I_13 o 57).toInt = (I o 57).toInt := by rw [← e_14, q_u_ne (by omega)]
      have t_19 : (I_13 o 104).toInt = (I o 104).toInt := by rw [← e_14, q_u_ne (by omega)]
      have t_20 : (I_13 o 105).toInt = (I o 105).toInt := by rw [← e_14, q_u_ne (by omega)]
      have k_21 : MTd I_13 o := hi3.fr (by rw [← e_14]; exact q_u_ne (by omega)) (by rw [← e_14]; exact q_u_ne (by omega)) (by rw [← e_14]; exact q_u_ne (by omega))
      unfold fModel_classes_116
      have a_23 : (x1 + Int32.ofInt 1).toInt = x1.toInt + (1) := tIc (by omega) (by omega) (by decide) (by decide)
      generalize ez_22 : (x1 + Int32.ofInt 1) = z_22 at a_23 ⊢
      exact ho2 hR_15 hf_16 (by first | omega | (intro h; omega) | exact Or.inl rfl | exact Or.inr rfl) k_21 (by omega)
    · have d_24 := iNle c_11
      have g_25 : (0 : Int) ≤ (I o 106).toInt ∧ (I o 106).toInt ≤ 5 := hR.at0 ra 106 (by decide)
      have l_26 : (5 : Int32).toInt = 5 := rfl
      have a_27 : (5 + x2).toInt = (5 : Int32).toInt + x2.toInt := tAdd (by omega) (by omega)
      refine y_Model_told hok hw ra (by first | omega | (intro h; omega) | exact Or.inl rfl | exact Or.inr rfl) (by first | omega | (intro h; omega) | exact Or.inl rfl | exact Or.inr rfl) (by first | omega | (intro h; omega) | exact Or.inl rfl | exact Or.inr rfl) hi3 hR (fun r_28 I_30 L_31 hR_32 fr_33 kp_34 u_29 => ⟨r_28, I_30, L_31, rfl, rfl, ?_⟩)
      have hf_35 : Fm (fun c => c = o ∨ c = o + 34 ∨ c = o + 57) I0 I_30 := hf.call fr_33 (fun c hc => by first | exact hc | (dsimp only at hc ⊢; omega) | omega)
      have t_36 : (I_30 o 106).toInt = (I o 106).toInt := by rw [kp_34 106 rfl]
      have t_37 : (I_30 o 57).toInt = (I o 57).toInt := by rw [kp_34 57 rfl]
      have t_38 : (I_30 o 104).toInt = (I o 104).toInt := by rw [kp_34 104 rfl]
      have t_39 : (I_30 o 105).toInt = (I o 105).toInt := by rw [kp_34 105 rfl]
      have l_40 : (0 : Int32).toInt = 0 := rfl
      refine ⟨fun c_41 => ?_, fun c_41 => ?_⟩
      · have d_42 := iNe c_41
        unfold fModel_classes_109
        refine ⟨tIn (by omega) (by omega), fun I_43 e_44 => ?_⟩
        have hR_45 : RI R I_43 := hR_32.up ra 57 (by decide) (Or.inl rfl) e_44 (i_lo _) (i_hi _)
        have hf_46 : Fm (fun c => c = o ∨ c = o + 34 ∨ c = o + 57) I0 I_43 := hf_35.set (by first | rfl | omega | (dsimp only; omega)) e_44
        have t_47 : (I_43 o 106).toInt = (I_30 o 106).toInt := by rw [← e_44, q_u_ne (by omega)]
        have t_48 : (I_43 o 57).toInt = (I_30 o 57).toInt := by rw [← e_44, q_u_ne (by omega)]
        have t_49 : (I_43 o 104).toInt = (I_30 o 104).toInt := by rw [← e_44, q_u_ne (by omega)]
        have t_50 : (I_43 o 105).toInt = (I_30 o 105).toInt := by rw [← e_44, q_u_ne (by omega)]
        have k_51 : MTd I_43 o := u_29.fr (by rw [← e_44]; exact q_u_ne (by omega)) (by rw [← e_44]; exact q_u_ne (by omega)) (by rw [← e_44]; exact q_u_ne (by omega))
        unfold fModel_classes_116
        have a_53 : (x1 + Int32.ofInt 1).toInt = x1.toInt + (1) := tIc (by omega) (by omega) (by decide) (by decide)
        generalize ez_52 : (x1 + Int32.ofInt 1) = z_52 at a_53 ⊢
        exact ho2 hR_45 hf_46 (by first | omega | (intro h; omega) | exact Or.inl rfl | exact Or.inr rfl) k_51 (by omega)
      · have d_54 := iEq c_41
        have a_56 : (x2 + Int32.ofInt 1).toInt = x2.toInt + (1) := tIc (by omega) (by omega) (by decide) (by decide)
        generalize ez_55 : (x2 + Int32.ofInt 1) = z_55 at a_56 ⊢
        exact ih hR_32 hf_35 (by first | omega | (intro h; omega) | exact Or.inl rfl | exact Or.inr rfl) (by first | omega | (intro h; omega) | exact Or.inl rfl | exact Or.inr rfl) (by first | omega | (intro h; omega) | exact Or.inl rfl | exact Or.inr rfl) u_29 (by omega)
set_option maxHeartbeats 4000000 in
set_option maxRecDepth 20000 in
theorem yModel_classes_2 {D : va_G} {cA : FieldType → ClassId} {b : Nat} {E : State → Prop} {R : qRg} {o n : Nat} {sh : Nat → qC} {Rf : Nat → Nat → Option Nat} {I0 : Nat → Nat → Int32} {L0 : Nat → Nat → Int64} {post : Option Value → qS → Prop} (hok : q_ok (qGG D cA b E)) (hw : WfModel (qGG D cA b E) n sh Rf o) (ra : RAModel R o) (hz63 : R.2 63 = true) (hz64 : R.2 64 = true) (hz65 : R.2 65 = true) (hz66 : R.2 66 = true) (hZ : Fz R I0 o wModel_classes) (hR0 : RI R I0) (hq0 : (I0 o 106).toInt ≠ 4) (hq1 : MTd I0 o) (hp : ∀ (I' : Nat → Nat → Int32) (L' : Nat → Nat → Int64), RI R I' → Fm (fun c => c = o ∨ c = o + 34 ∨ c = o + 57) I0 I' → (MTd I' o) → post none (n, sh, Rf, I', L')) : ∀ (k : Nat) {x1 : Int32} {I : Nat → Nat → Int32} {L : Nat → Nat → Int64}, RI R I → Fm (fun c => c = o ∨ c = o + 34 ∨ c = o + 57) I0 I → ((0 : Int) ≤ x1.toInt ∧ x1.toInt ≤ 2000) → (MTd I o) → (2000 - x1.toInt).toNat < k → Ev (qGG D cA b E) mModel_classes 5 (0, 0) 2 [(0, .ref o), (1, .int x1)] [] (n, sh, Rf, I, L) post := by
  intro k
  induction k with
  | zero =>
    intro x1 I L hR hf hi0 hi1 hm
    exact absurd hm (Nat.not_lt_zero _)
  | succ k ih =>
    intro x1 I L hR hf hi0 hi1 hm
    have g_57 : (0 : Int) ≤ (I o 106).toInt ∧ (I o 106).toInt ≤ 5 := hR.at0 ra 106 (by decide)
    have z_58 : (I o 106).toInt = (I0 o 106).toInt := by rw [hZ I 106 rfl hR]
    have g_59 : (0 : Int) ≤ (I o 57).toInt ∧ (I o 57).toInt ≤ 240 := hR.at0 ra 57 (by decide)
    have z_60 : (I o 57).toInt = (I0 o 57).toInt := by rw [hZ I 57 rfl hR]
    have g_61 : (0 : Int) ≤ (I o 104).toInt ∧ (I o 104).toInt ≤ 2000 := hR.at0 ra 104 (by decide)
    have z_62 : (I o 104).toInt = (I0 o 104).toInt := by rw [hZ I 104 rfl hR]
    have g_63 : (0 : Int) ≤ (I o 105).toInt ∧ (I o 105).toInt ≤ 4000 := hR.at0 ra 105 (by decide)
    have z_64 : (I o 105).toInt = (I0 o 105).toInt := by rw [hZ I 105 rfl hR]
    refine sModel_classes_2 o n sh Rf I L post x1 hok hw ?_
    unfold fModel_classes_2
    have g_65 : (0 : Int) ≤ (I o 104).toInt ∧ (I o 104).toInt ≤ 2000 := hR.at0 ra 104 (by decide)
    refine ⟨fun c_66 => ?_, fun c_66 => ?_⟩
    · have d_67 := iLe c_66
      exact (hp _ _ hR hf  hi1)
    · have d_68 := iNle c_66
      refine y_Model_waits2 hok hw ra (by first | omega | (intro h; omega) | exact Or.inl rfl | exact Or.inr rfl) hR (fun r_69 u_70 u_71 => ⟨r_69, I, L, rfl, rfl, ?_⟩)
      have b_72 : 0 ≤ r_69.toInt ∧ r_69.toInt ≤ 1 := u_70.rg
      have l_73 : (0 : Int32).toInt = 0 := rfl
      refine ⟨fun c_74 => ?_, fun c_74 => ?_⟩
      · have d_75 := iNe c_74
        have g_76 : (0 : Int) ≤ (I o 57).toInt ∧ (I o 57).toInt ≤ 240 := hR.at0 ra 57 (by decide)
        refine ⟨tIn (by omega) (by omega), ?_⟩
        refine fun I_77 e_78 => ?_
        have hR_79 : RI R I_77 := hR.up0 (k := 54) ra (by decide) (Or.inr hz64) e_78 (i_lo _) (i_hi _)
        have hf_80 : Fm (fun c => c = o ∨ c = o + 34 ∨ c = o + 57) I0 I_77 := hf.set (by first | rfl | omega | (dsimp only; omega)) e_78
        have t_81 : (I_77 o 106).toInt = (I o 106).toInt := by rw [← e_78, q_u_k (by decide)]
        have t_82 : (I_77 o 57).toInt = (I o 57).toInt := by rw [← e_78, q_u_k (by decide)]
        have t_83 : (I_77 o 104).toInt = (I o 104).toInt := by rw [← e_78, q_u_k (by decide)]
        have t_84 : (I_77 o 105).toInt = (I o 105).toInt := by rw [← e_78, q_u_k (by decide)]
        have k_85 : MTd I_77 o := hi1.fr (by rw [← e_78]; exact q_u_ne (by omega)) (by rw [← e_78]; exact q_u_ne (by omega)) (by rw [← e_78]; exact q_u_ne (by omega))
        refine ⟨tIn (by omega) (by omega), ?_⟩
        refine fun I_86 e_87 => ?_
        have hR_88 : RI R I_86 := hR_79.up0 (k := 55) ra (by decide) (Or.inr hz65) e_87 (i_lo _) (i_hi _)
        have hf_89 : Fm (fun c => c = o ∨ c = o + 34 ∨ c = o + 57) I0 I_86 := hf_80.set (by first | rfl | omega | (dsimp only; omega)) e_87
        have t_90 : (I_86 o 106).toInt = (I_77 o 106).toInt := by rw [← e_87, q_u_k (by decide)]
        have t_91 : (I_86 o 57).toInt = (I_77 o 57).toInt := by rw [← e_87, q_u_k (by decide)]
        have t_92 : (I_86 o 104).toInt = (I_77 o 104).toInt := by rw [← e_87, q_u_k (by decide)]
        have t_93 : (I_86 o 105).toInt = (I_77 o 105).toInt := by rw [← e_87, q_u_k (by decide)]
        have k_94 : MTd I_86 o := k_85.fr (by rw [← e_87]; exact q_u_ne (by omega)) (by rw [← e_87]; exact q_u_ne (by omega)) (by rw [← e_87]; exact q_u_ne (by omega))
        refine ⟨tIn (by omega) (by omega), ?_⟩
        refine ⟨fun c_95 => ?_, fun c_95 => ?_⟩
        · have d_96 := iEq c_95
          unfold fModel_classes_61
          refine fun I_97 e_98 => ?_
          have hR_99 : RI R I_97 := hR_88.up0 (k := 56) ra (by decide) (Or.inr hz66) e_98 (i_lo _) (i_hi _)
          have hf_100 : Fm (fun c => c = o ∨ c = o + 34 ∨ c = o + 57) I0 I_97 := hf_89.set (by first | rfl | omega | (dsimp only; omega)) e_98
          have t_101 : (I_97 o 106).toInt = (I_86 o 106).toInt := by rw [← e_98, q_u_k (by decide)]
          have t_102 : (I_97 o 57).toInt = (I_86 o 57).toInt := by rw [← e_98, q_u_k (by decide)]
          have t_103 : (I_97 o 104).toInt = (I_86 o 104).toInt := by rw [← e_98, q_u_k (by decide)]
          have t_104 : (I_97 o 105).toInt = (I_86 o 105).toInt := by rw [← e_98, q_u_k (by decide)]
          have k_105 : MTd I_97 o := k_94.fr (by rw [← e_98]; exact q_u_ne (by omega)) (by rw [← e_98]; exact q_u_ne (by omega)) (by rw [← e_98]; exact q_u_ne (by omega))
          refine ⟨tIn (by omega) (by omega), ?_⟩
          refine fun I_106 e_107 => ?_
          have hR_108 : RI R I_106 := hR_99.up0 (k := 53) ra (by decide) (Or.inr hz63) e_107 (i_lo _) (i_hi _)
          have hf_109 : Fm (fun c => c = o ∨ c = o + 34 ∨ c = o + 57) I0 I_106 := hf_100.set (by first | rfl | omega | (dsimp only; omega)) e_107
          have t_110 : (I_106 o 106).toInt = (I_97 o 106).toInt := by rw [← e_107, q_u_k (by decide)]
          have t_111 : (I_106 o 57).toInt = (I_97 o 57).toInt := by rw [← e_107, q_u_k (by decide)]
          have t_112 : (I_106 o 104).toInt = (I_97 o 104).toInt := by rw [← e_107, q_u_k (by decide)]
          have t_113 : (I_106 o 105).toInt = (I_97 o 105).toInt := by rw [← e_107, q_u_k (by decide)]
          have k_114 : MTd I_106 o := k_105.fr (by rw [← e_107]; exact q_u_ne (by omega)) (by rw [← e_107]; exact q_u_ne (by omega)) (by rw [← e_107]; exact q_u_ne (by omega))
          exact yModel_classes_76 (I0 := I0) (L0 := L0) hok hw ra hz63 hz64 hz65 hz66 hZ hR0 hq0 hq1 hp ih _ hR_108 hf_109 (by first | omega | (intro h; omega) | exact Or.inl rfl | exact Or.inr rfl) (by first | omega | (intro h; omega) | exact Or.inl rfl | exact Or.inr rfl) (by first | omega | (intro h; omega) | exact Or.inl rfl | exact Or.inr rfl) k_114 (Nat.lt_succ_self _)
        · have d_115 := iNe c_95
          unfold fModel_classes_61
          have l_116 : (1 : Int32).toInt = 1 := rfl
          refine fun I_117 e_118 => ?_
          have hR_119 : RI R I_117 := hR_88.up0 (k := 56) ra (by decide) (Or.inr hz66) e_118 (i_lo _) (i_hi _)
          have hf_120 : Fm (fun c => c = o ∨ c = o + 34 ∨ c = o + 57) I0 I_117 := hf_89.set (by first | rfl | omega | (dsimp only; omega)) e_118
          have t_121 : (I_117 o 106).toInt = (I_86 o 106).toInt := by rw [← e_118, q_u_k (by decide)]
          have t_122 : (I_117 o 57).toInt = (I_86 o 57).toInt := by rw [← e_118, q_u_k (by decide)]
          have t_123 : (I_117 o 104).toInt = (I_86 o 104).toInt := by rw [← e_118, q_u_k (by decide)]
          have t_124 : (I_117 o 105).toInt = (I_86 o 105).toInt := by rw [← e_118, q_u_k (by decide)]
          have k_125 : MTd I_117 o := k_94.fr (by rw [← e_118]; exact q_u_ne (by omega)) (by rw [← e_118]; exact q_u_ne (by omega)) (by rw [← e_118]; exact q_u_ne (by omega))
          refine ⟨tIn (by omega) (by omega), ?_⟩
          refine fun I_126 e_127 => ?_
          have hR_128 : RI R I_126 := hR_119.up0 (k := 53) ra (by decide) (Or.inr hz63) e_127 (i_lo _) (i_hi _)
          have hf_129 : Fm (fun c => c = o ∨ c = o + 34 ∨ c = o + 57) I0 I_126 := hf_120.set (by first | rfl | omega | (dsimp only; omega)) e_127
          have t_130 : (I_126 o 106).toInt = (I_117 o 106).toInt := by rw [← e_127, q_u_k (by decide)]
          have t_131 : (I_126 o 57).toInt = (I_117 o 57).toInt := by rw [← e_127, q_u_k (by decide)]
          have t_132 : (I_126 o 104).toInt = (I_117 o 104).toInt := by rw [← e_127, q_u_k (by decide)]
          have t_133 : (I_126 o 105).toInt = (I_117 o 105).toInt := by rw [← e_127, q_u_k (by decide)]
          have k_134 : MTd I_126 o := k_125.fr (by rw [← e_127]; exact q_u_ne (by omega)) (by rw [← e_127]; exact q_u_ne (by omega)) (by rw [← e_127]; exact q_u_ne (by omega))
          exact yModel_classes_76 (I0 := I0) (L0 := L0) hok hw ra hz63 hz64 hz65 hz66 hZ hR0 hq0 hq1 hp ih _ hR_128 hf_129 (by first | omega | (intro h; omega) | exact Or.inl rfl | exact Or.inr rfl) (by first | omega | (intro h; omega) | exact Or.inl rfl | exact Or.inr rfl) (by first | omega | (intro h; omega) | exact Or.inl rfl | exact Or.inr rfl) k_134 (Nat.lt_succ_self _)
      · have d_135 := iEq c_74
        unfold fModel_classes_116
        have a_137 : (x1 + Int32.ofInt 1).toInt = x1.toInt + (1) := tIc (by omega) (by omega) (by decide) (by decide)
        generalize ez_136 : (x1 + Int32.ofInt 1) = z_136 at a_137 ⊢
        exact ih hR hf (by first | omega | (intro h; omega) | exact Or.inl rfl | exact Or.inr rfl) hi1 (by omega)
set_option maxHeartbeats 4000000 in
set_option maxRecDepth 20000 in
theorem yc_Model_classes {D : va_G} {cA : FieldType → ClassId} {b : Nat} {E : State → Prop} {R : qRg} {o n : Nat} {sh : Nat → qC} {Rf : Nat → Nat → Option Nat} {I0 : Nat → Nat → Int32} {L0 : Nat → Nat → Int64} {post : Option Value → qS → Prop} (hok : q_ok (qGG D cA b E)) (hw : WfModel (qGG D cA b E) n sh Rf o) (ra : RAModel R o) (hz63 : R.2 63 = true) (hz64 : R.2 64 = true) (hz65 : R.2 65 = true) (hz66 : R.2 66 = true) (hZ : Fz R I0 o wModel_classes) (hR0 : RI R I0) (hq0 : (I0 o 106).toInt ≠ 4) (hq1 : MTd I0 o) (hR : RI R I0) (hp : ∀ (I' : Nat → Nat → Int32) (L' : Nat → Nat → Int64), RI R I' → Fm (fun c => c = o ∨ c = o + 34 ∨ c = o + 57) I0 I' → (MTd I' o) → post none (n, sh, Rf, I', L')) : Ev (qGG D cA b E) mModel_classes 5 (0, 0) 0 (lv_args 0 [.ref o]) [] (n, sh, Rf, I0, L0) post := by
  have hf : Fm (fun c => c = o ∨ c = o + 34 ∨ c = o + 57) I0 I0 := Fm.rf
  have g_138 : (0 : Int) ≤ (I0 o 106).toInt ∧ (I0 o 106).toInt ≤ 5 := hR.at0 ra 106 (by decide)
  have g_139 : (0 : Int) ≤ (I0 o 57).toInt ∧ (I0 o 57).toInt ≤ 240 := hR.at0 ra 57 (by decide)
  have g_140 : (0 : Int) ≤ (I0 o 104).toInt ∧ (I0 o 104).toInt ≤ 2000 := hR.at0 ra 104 (by decide)
  have g_141 : (0 : Int) ≤ (I0 o 105).toInt ∧ (I0 o 105).toInt ≤ 4000 := hR.at0 ra 105 (by decide)
  refine sModel_classes_0 o n sh Rf I0 L0 post  hok hw ?_
  unfold fModel_classes_0
  have l_142 : (0 : Int32).toInt = 0 := rfl
  exact yModel_classes_2 (I0 := I0) (L0 := L0) hok hw ra hz63 hz64 hz65 hz66 hZ hR0 hq0 hq1 hp  _ hR hf (by first | omega | (intro h; omega) | exact Or.inl rfl | exact Or.inr rfl) hq1 (Nat.lt_succ_self _)
theorem y_Model_classes {D : va_G} {cA : FieldType → ClassId} {b : Nat} {E : State → Prop} {R : qRg} {o n : Nat} {sh : Nat → qC} {Rf : Nat → Nat → Option Nat} {I0 : Nat → Nat → Int32} {L0 : Nat → Nat → Int64} {post : Option Value → qS → Prop} (hok : q_ok (qGG D cA b E)) (hw : WfModel (qGG D cA b E) n sh Rf o) (ra : RAModel R o) (hz63 : R.2 63 = true) (hz64 : R.2 64 = true) (hz65 : R.2 65 = true) (hz66 : R.2 66 = true) (hq0 : (I0 o 106).toInt ≠ 4) (hq1 : MTd I0 o) (hR : RI R I0) (hp : ∀ (I' : Nat → Nat → Int32) (L' : Nat → Nat → Int64), RI R I' → Fm (fun c => c = o ∨ c = o + 34 ∨ c = o + 57) I0 I' → Kp wModel_classes I0 I' o → (MTd I' o) → post none (n, sh, Rf, I', L')) : Ev (qGG D cA b E) mModel_classes 5 (0, 0) 0 (lv_args 0 [.ref o]) [] (n, sh, Rf, I0, L0) post :=
  yc_Model_classes (R := fzR R I0 o wModel_classes) hok hw (fzA ra hR _) (fzT hz63 rfl) (fzT hz64 rfl) (fzT hz65 rfl) (fzT hz66 rfl) fzZ (fzI hR) hq0 hq1 (fzI hR) (fun I' L' h1 h2 u0 => hp I' L' (fzB hR h1) h2 (fzP h1) u0)
