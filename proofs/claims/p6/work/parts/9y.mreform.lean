/-! Safety of the reference, the pieces of a REFORM: by program (spec.py). -/
def wModel_step : Nat → Bool := fun j => Nat.beq j 55 || false
set_option maxHeartbeats 4000000 in
set_option maxRecDepth 20000 in
theorem yc_Model_step {D : va_G} {cA : FieldType → ClassId} {b : Nat} {E : State → Prop} {R : qRg} {o n : Nat} {sh : Nat → qC} {Rf : Nat → Nat → Option Nat} {I0 : Nat → Nat → Int32} {L0 : Nat → Nat → Int64} {post : Option Value → qS → Prop} {p1 : Int32} {p2 : Int32} (hok : q_ok (qGG D cA b E)) (hw : WfModel (qGG D cA b E) n sh Rf o) (ra : RAModel R o) (hz55 : R.2 55 = true) (hZ : Fz R I0 o wModel_step) (hR0 : RI R I0) (hq0 : (I0 o 44).toInt = 4) (hq1 : (I0 o 45).toInt ≤ 699) (hR : RI R I0) (hp : ∀ (I' : Nat → Nat → Int32) (L' : Nat → Nat → Int64), RI R I' → Fm (fun c => c = o ∨ c = o + 30 ∨ c = o + 31) I0 I' → (I' (o + 30) = rU (I0 (o + 30)) (2800 + (I0 o 45).toInt.toNat) p1) → ((I' o 45).toInt = (I0 o 45).toInt + 1) → post none (n, sh, Rf, I', L')) : Ev (qGG D cA b E) mModel_step 0 (0, 0) 0 (lv_args 0 [.ref o, .int p1, .int p2]) [] (n, sh, Rf, I0, L0) post := by
  have hf : Fm (fun c => c = o ∨ c = o + 30 ∨ c = o + 31) I0 I0 := Fm.rf
  have g_1 : (0 : Int) ≤ (I0 o 44).toInt ∧ (I0 o 44).toInt ≤ 4 := hR.at0 ra 44 (by decide)
  have g_2 : (0 : Int) ≤ (I0 o 45).toInt ∧ (I0 o 45).toInt ≤ 700 := hR.at0 ra 45 (by decide)
  refine sModel_step_0 o n sh Rf I0 L0 post p1 p2 hok hw ?_
  unfold fModel_step_0
  have g_3 : (0 : Int) ≤ (I0 o 44).toInt ∧ (I0 o 44).toInt ≤ 4 := hR.at0 ra 44 (by decide)
  have l_4 : (700 : Int32).toInt = 700 := rfl
  have a_5 : (700 * (I0 o 44)).toInt = 700 * (I0 o 44).toInt := tMulL rfl (by omega) (by omega)
  have g_6 : (0 : Int) ≤ (I0 o 45).toInt ∧ (I0 o 45).toInt ≤ 700 := hR.at0 ra 45 (by decide)
  have a_7 : ((700 * (I0 o 44)) + (I0 o 45)).toInt = (700 * (I0 o 44)).toInt + (I0 o 45).toInt := tAdd (by omega) (by omega)
  refine ⟨tIn (by omega) (by omega), fun I_8 e_9 => ?_⟩
  have hR_10 : RI R I_8 := hR.up ra 30 (by decide) (Or.inl rfl) e_9 (i_lo _) (i_hi _)
  have hf_11 : Fm (fun c => c = o ∨ c = o + 30 ∨ c = o + 31) I0 I_8 := hf.set (by first | rfl | omega | (dsimp only; omega)) e_9
  have t_12 : (I_8 o 44).toInt = (I0 o 44).toInt := by rw [← e_9, q_u_ne (by omega)]
  have t_13 : (I_8 o 45).toInt = (I0 o 45).toInt := by rw [← e_9, q_u_ne (by omega)]
  have g_14 : (0 : Int) ≤ (I_8 o 44).toInt ∧ (I_8 o 44).toInt ≤ 4 := hR_10.at0 ra 44 (by decide)
  have a_15 : (700 * (I_8 o 44)).toInt = 700 * (I_8 o 44).toInt := tMulL rfl (by omega) (by omega)
  have g_16 : (0 : Int) ≤ (I_8 o 45).toInt ∧ (I_8 o 45).toInt ≤ 700 := hR_10.at0 ra 45 (by decide)
  have a_17 : ((700 * (I_8 o 44)) + (I_8 o 45)).toInt = (700 * (I_8 o 44)).toInt + (I_8 o 45).toInt := tAdd (by omega) (by omega)
  refine ⟨tIn (by omega) (by omega), fun I_18 e_19 => ?_⟩
  have hR_20 : RI R I_18 := hR_10.up ra 31 (by decide) (Or.inl rfl) e_19 (i_lo _) (i_hi _)
  have hf_21 : Fm (fun c => c = o ∨ c = o + 30 ∨ c = o + 31) I0 I_18 := hf_11.set (by first | rfl | omega | (dsimp only; omega)) e_19
  have t_22 : (I_18 o 44).toInt = (I_8 o 44).toInt := by rw [← e_19, q_u_ne (by omega)]
  have t_23 : (I_18 o 45).toInt = (I_8 o 45).toInt := by rw [← e_19, q_u_ne (by omega)]
  have g_24 : (0 : Int) ≤ (I_18 o 45).toInt ∧ (I_18 o 45).toInt ≤ 700 := hR_20.at0 ra 45 (by decide)
  have l_25 : (1 : Int32).toInt = 1 := rfl
  have a_26 : ((I_18 o 45) + 1).toInt = (I_18 o 45).toInt + (1 : Int32).toInt := tAdd (by omega) (by omega)
  refine fun I_27 e_28 => ?_
  have hR_29 : RI R I_27 := hR_20.up0 (k := 45) ra (by decide) (Or.inr hz55) e_28 (show (0 : Int) ≤ ((I_18 o 45) + 1).toInt by omega) (show ((I_18 o 45) + 1).toInt ≤ (700 : Int) by omega)
  have hf_30 : Fm (fun c => c = o ∨ c = o + 30 ∨ c = o + 31) I0 I_27 := hf_21.set (by first | rfl | omega | (dsimp only; omega)) e_28
  have t_31 : (I_27 o 44).toInt = (I_18 o 44).toInt := by rw [← e_28, q_u_k (by decide)]
  have t_32 : (I_27 o 45).toInt = ((I_18 o 45) + 1).toInt := by rw [← e_28, q_u_at]
  exact (hp _ _ hR_29 hf_30 (by rw [← e_28, q_u_ne (by omega), ← e_19, q_u_ne (by omega)]; exact rU_q e_9 (by have cl := tCl (x := 700 * I0 o 44 + I0 o 45) (by omega); omega)) (by first | omega | (intro h; omega) | exact Or.inl rfl | exact Or.inr rfl))
theorem y_Model_step {D : va_G} {cA : FieldType → ClassId} {b : Nat} {E : State → Prop} {R : qRg} {o n : Nat} {sh : Nat → qC} {Rf : Nat → Nat → Option Nat} {I0 : Nat → Nat → Int32} {L0 : Nat → Nat → Int64} {post : Option Value → qS → Prop} {p1 : Int32} {p2 : Int32} (hok : q_ok (qGG D cA b E)) (hw : WfModel (qGG D cA b E) n sh Rf o) (ra : RAModel R o) (hz55 : R.2 55 = true) (hq0 : (I0 o 44).toInt = 4) (hq1 : (I0 o 45).toInt ≤ 699) (hR : RI R I0) (hp : ∀ (I' : Nat → Nat → Int32) (L' : Nat → Nat → Int64), RI R I' → Fm (fun c => c = o ∨ c = o + 30 ∨ c = o + 31) I0 I' → Kp wModel_step I0 I' o → (I' (o + 30) = rU (I0 (o + 30)) (2800 + (I0 o 45).toInt.toNat) p1) → ((I' o 45).toInt = (I0 o 45).toInt + 1) → post none (n, sh, Rf, I', L')) : Ev (qGG D cA b E) mModel_step 0 (0, 0) 0 (lv_args 0 [.ref o, .int p1, .int p2]) [] (n, sh, Rf, I0, L0) post :=
  yc_Model_step (R := fzR R I0 o wModel_step) hok hw (fzA ra hR _) (fzT hz55 rfl) fzZ (fzI hR) hq0 hq1 (fzI hR) (fun I' L' h1 h2 u0 u1 => hp I' L' (fzB hR h1) h2 (fzP h1) u0 u1)
def wModel_pile : Nat → Bool := fun j => Nat.beq j 58 || false
set_option maxHeartbeats 4000000 in
set_option maxRecDepth 20000 in
theorem yc_Model_pile {D : va_G} {cA : FieldType → ClassId} {b : Nat} {E : State → Prop} {R : qRg} {o n : Nat} {sh : Nat → qC} {Rf : Nat → Nat → Option Nat} {I0 : Nat → Nat → Int32} {L0 : Nat → Nat → Int64} {post : Option Value → qS → Prop} {p1 : Int32} {p2 : Int32} (hok : q_ok (qGG D cA b E)) (hw : WfModel (qGG D cA b E) n sh Rf o) (ra : RAModel R o) (hz58 : R.2 58 = true) (hZ : Fz R I0 o wModel_pile) (hR0 : RI R I0) (hq0 : (0 : Int) ≤ p1.toInt ∧ p1.toInt ≤ 8) (hq1 : (I0 o 48).toInt ≤ 79) (hR : RI R I0) (hp : ∀ (I' : Nat → Nat → Int32) (L' : Nat → Nat → Int64), RI R I' → Fm (fun c => c = o ∨ c = o + 32 ∨ c = o + 33) I0 I' → (I' (o + 32) = rU (I0 (o + 32)) (I0 o 48).toNatClampNeg p1) → (I' (o + 33) = rU (I0 (o + 33)) (I0 o 48).toNatClampNeg p2) → ((I' o 48).toInt = (I0 o 48).toInt + 1) → post none (n, sh, Rf, I', L')) : Ev (qGG D cA b E) mModel_pile 0 (0, 0) 0 (lv_args 0 [.ref o, .int p1, .int p2]) [] (n, sh, Rf, I0, L0) post := by
  have hf : Fm (fun c => c = o ∨ c = o + 32 ∨ c = o + 33) I0 I0 := Fm.rf
  have g_1 : (0 : Int) ≤ (I0 o 48).toInt ∧ (I0 o 48).toInt ≤ 80 := hR.at0 ra 48 (by decide)
  refine sModel_pile_0 o n sh Rf I0 L0 post p1 p2 hok hw ?_
  unfold fModel_pile_0
  have g_2 : (0 : Int) ≤ (I0 o 48).toInt ∧ (I0 o 48).toInt ≤ 80 := hR.at0 ra 48 (by decide)
  refine ⟨tIn (by omega) (by omega), fun I_3 e_4 => ?_⟩
  have hR_5 : RI R I_3 := hR.up ra 32 (by decide) (Or.inl rfl) e_4 (show (0 : Int) ≤ p1.toInt by omega) (show p1.toInt ≤ (8 : Int) by omega)
  have hf_6 : Fm (fun c => c = o ∨ c = o + 32 ∨ c = o + 33) I0 I_3 := hf.set (by first | rfl | omega | (dsimp only; omega)) e_4
  have t_7 : (I_3 o 48).toInt = (I0 o 48).toInt := by rw [← e_4, q_u_ne (by omega)]
  have g_8 : (0 : Int) ≤ (I_3 o 48).toInt ∧ (I_3 o 48).toInt ≤ 80 := hR_5.at0 ra 48 (by decide)
  refine ⟨tIn (by omega) (by omega), fun I_9 e_10 => ?_⟩
  have hR_11 : RI R I_9 := hR_5.up ra 33 (by decide) (Or.inl rfl) e_10 (i_lo _) (i_hi _)
  have hf_12 : Fm (fun c => c = o ∨ c = o + 32 ∨ c = o + 33) I0 I_9 := hf_6.set (by first | rfl | omega | (dsimp only; omega)) e_10
  have t_13 : (I_9 o 48).toInt = (I_3 o 48).toInt := by rw [← e_10, q_u_ne (by omega)]
  have g_14 : (0 : Int) ≤ (I_9 o 48).toInt ∧ (I_9 o 48).toInt ≤ 80 := hR_11.at0 ra 48 (by decide)
  have l_15 : (1 : Int32).toInt = 1 := rfl
  have a_16 : ((I_9 o 48) + 1).toInt = (I_9 o 48).toInt + (1 : Int32).toInt := tAdd (by omega) (by omega)
  refine fun I_17 e_18 => ?_
  have hR_19 : RI R I_17 := hR_11.up0 (k := 48) ra (by decide) (Or.inr hz58) e_18 (show (0 : Int) ≤ ((I_9 o 48) + 1).toInt by omega) (show ((I_9 o 48) + 1).toInt ≤ (80 : Int) by omega)
  have hf_20 : Fm (fun c => c = o ∨ c = o + 32 ∨ c = o + 33) I0 I_17 := hf_12.set (by first | rfl | omega | (dsimp only; omega)) e_18
  have t_21 : (I_17 o 48).toInt = ((I_9 o 48) + 1).toInt := by rw [← e_18, q_u_at]
  exact (hp _ _ hR_19 hf_20 (by rw [← e_18, q_u_ne (by omega), ← e_10, q_u_ne (by omega)]; exact rU_q e_4 rfl) (by rw [← e_18, q_u_ne (by omega), rU_q e_10 (m := (I0 o 48).toNatClampNeg) (by rw [← e_4, q_u_ne (by omega)]), ← e_4, q_u_ne (by omega)]) (by first | omega | (intro h; omega) | exact Or.inl rfl | exact Or.inr rfl))
theorem y_Model_pile {D : va_G} {cA : FieldType → ClassId} {b : Nat} {E : State → Prop} {R : qRg} {o n : Nat} {sh : Nat → qC} {Rf : Nat → Nat → Option Nat} {I0 : Nat → Nat → Int32} {L0 : Nat → Nat → Int64} {post : Option Value → qS → Prop} {p1 : Int32} {p2 : Int32} (hok : q_ok (qGG D cA b E)) (hw : WfModel (qGG D cA b E) n sh Rf o) (ra : RAModel R o) (hz58 : R.2 58 = true) (hq0 : (0 : Int) ≤ p1.toInt ∧ p1.toInt ≤ 8) (hq1 : (I0 o 48).toInt ≤ 79) (hR : RI R I0) (hp : ∀ (I' : Nat → Nat → Int32) (L' : Nat → Nat → Int64), RI R I' → Fm (fun c => c = o ∨ c = o + 32 ∨ c = o + 33) I0 I' → Kp wModel_pile I0 I' o → (I' (o + 32) = rU (I0 (o + 32)) (I0 o 48).toNatClampNeg p1) → (I' (o + 33) = rU (I0 (o + 33)) (I0 o 48).toNatClampNeg p2) → ((I' o 48).toInt = (I0 o 48).toInt + 1) → post none (n, sh, Rf, I', L')) : Ev (qGG D cA b E) mModel_pile 0 (0, 0) 0 (lv_args 0 [.ref o, .int p1, .int p2]) [] (n, sh, Rf, I0, L0) post :=
  yc_Model_pile (R := fzR R I0 o wModel_pile) hok hw (fzA ra hR _) (fzT hz58 rfl) fzZ (fzI hR) hq0 hq1 (fzI hR) (fun I' L' h1 h2 u0 u1 u2 => hp I' L' (fzB hR h1) h2 (fzP h1) u0 u1 u2)
def wModel_wordHere : Nat → Bool := fun j => Nat.beq j 14 || Nat.beq j 15 || false
set_option maxHeartbeats 4000000 in
set_option maxRecDepth 20000 in
theorem yc_Model_wordHere {D : va_G} {cA : FieldType → ClassId} {b : Nat} {E : State → Prop} {R : qRg} {o n : Nat} {sh : Nat → qC} {Rf : Nat → Nat → Option Nat} {I0 : Nat → Nat → Int32} {L0 : Nat → Nat → Int64} {post : Option Value → qS → Prop} (hok : q_ok (qGG D cA b E)) (hw : WfModel (qGG D cA b E) n sh Rf o) (ra : RAModel R o) (hz14 : R.2 14 = true) (hz15 : R.2 15 = true) (hZ : Fz R I0 o wModel_wordHere) (hR0 : RI R I0) (hR : RI R I0) (hp : ∀ (r : Int32) (I' : Nat → Nat → Int32) (L' : Nat → Nat → Int64), RI R I' → Fm (fun c => c = o) I0 I' → (Im (r.toInt ≠ 0) (isT r.toInt)) → (Im (r.toInt ≠ 0) ((I0 o 8).toInt = 3)) → ((I0 o 4).toInt ≤ (I' o 4).toInt) → post (some (.int r)) (n, sh, Rf, I', L')) : Ev (qGG D cA b E) mModel_wordHere 1 (0, 0) 0 (lv_args 0 [.ref o]) [] (n, sh, Rf, I0, L0) post := by
  have hf : Fm (fun c => c = o) I0 I0 := Fm.rf
  have g_1 : (0 : Int) ≤ (I0 o 3).toInt ∧ (I0 o 3).toInt ≤ 1600 := hR.at0 ra 3 (by decide)
  have g_2 : (0 : Int) ≤ (I0 o 4).toInt ∧ (I0 o 4).toInt ≤ 5 := hR.at0 ra 4 (by decide)
  have g_3 : (0 : Int) ≤ (I0 o 6).toInt ∧ (I0 o 6).toInt ≤ 1600 := hR.at0 ra 6 (by decide)
  have g_4 : (0 : Int) ≤ (I0 o 7).toInt ∧ (I0 o 7).toInt ≤ 1601 := hR.at0 ra 7 (by decide)
  have g_5 : (0 : Int) ≤ (I0 o 8).toInt ∧ (I0 o 8).toInt ≤ 6 := hR.at0 ra 8 (by decide)
  refine sModel_wordHere_0 o n sh Rf I0 L0 post  hok hw ?_
  unfold fModel_wordHere_0
  have l_6 : (2036687218 : Int32).toInt = 2036687218 := rfl
  refine y_Model_isWord hok hw ra hR (fun r_7 u_8 u_9 => ⟨r_7, I0, L0, rfl, rfl, ?_⟩)
  have b_10 : 0 ≤ r_7.toInt ∧ r_7.toInt ≤ 1 := u_8.rg
  have l_11 : (0 : Int32).toInt = 0 := rfl
  refine ⟨fun c_12 => ?_, fun c_12 => ?_⟩
  · have d_13 := iEq c_12
    refine y_Model_isWord hok hw ra hR (fun r_14 u_15 u_16 => ⟨r_14, I0, L0, rfl, rfl, ?_⟩)
    have b_17 : 0 ≤ r_14.toInt ∧ r_14.toInt ≤ 1 := u_15.rg
    refine ⟨fun c_18 => ?_, fun c_18 => ?_⟩
    · have d_19 := iEq c_18
      refine y_Model_isWord hok hw ra hR (fun r_20 u_21 u_22 => ⟨r_20, I0, L0, rfl, rfl, ?_⟩)
      have b_23 : 0 ≤ r_20.toInt ∧ r_20.toInt ≤ 1 := u_21.rg
      refine ⟨fun c_24 => ?_, fun c_24 => ?_⟩
      · have d_25 := iEq c_24
        have l_26 : (1835099237 : Int32).toInt = 1835099237 := rfl
        refine y_Model_isWord hok hw ra hR (fun r_27 u_28 u_29 => ⟨r_27, I0, L0, rfl, rfl, ?_⟩)
        have b_30 : 0 ≤ r_27.toInt ∧ r_27.toInt ≤ 1 := u_28.rg
        refine ⟨fun c_31 => ?_, fun c_31 => ?_⟩
        · have d_32 := iEq c_31
          refine ⟨fun c_33 => ?_, fun c_33 => ?_⟩
          · have d_34 := iNe c_33
            unfold fModel_wordHere_64
            have l_35 : (5 : Int32).toInt = 5 := rfl
            refine ⟨fun c_36 => ?_, fun c_36 => ?_⟩
            · have d_37 := iLt c_36
              unfold fModel_wordHere_78
              refine y_Model_isWord hok hw ra hR (fun r_38 u_39 u_40 => ⟨r_38, I0, L0, rfl, rfl, ?_⟩)
              have b_41 : 0 ≤ r_38.toInt ∧ r_38.toInt ≤ 1 := u_39.rg
              refine ⟨fun c_42 => ?_, fun c_42 => ?_⟩
              · have d_43 := iEq c_42
                have l_44 : (1852138852 : Int32).toInt = 1852138852 := rfl
                refine y_Model_isWord hok hw ra hR (fun r_45 u_46 u_47 => ⟨r_45, I0, L0, rfl, rfl, ?_⟩)
                have b_48 : 0 ≤ r_45.toInt ∧ r_45.toInt ≤ 1 := u_46.rg
                refine ⟨fun c_49 => ?_, fun c_49 => ?_⟩
                · have d_50 := iEq c_49
                  have l_51 : (1684109683 : Int32).toInt = 1684109683 := rfl
                  refine y_Model_isWord hok hw ra hR (fun r_52 u_53 u_54 => ⟨r_52, I0, L0, rfl, rfl, ?_⟩)
                  have b_55 : 0 ≤ r_52.toInt ∧ r_52.toInt ≤ 1 := u_53.rg
                  refine ⟨fun c_56 => ?_, fun c_56 => ?_⟩
                  · have d_57 := iEq c_56
                    have l_58 : (6383461 : Int32).toInt = 6383461 := rfl
                    refine y_Model_isWord hok hw ra hR (fun r_59 u_60 u_61 => ⟨r_59, I0, L0, rfl, rfl, ?_⟩)
                    have b_62 : 0 ≤ r_59.toInt ∧ r_59.toInt ≤ 1 := u_60.rg
                    refine ⟨fun c_63 => ?_, fun c_63 => ?_⟩
                    · have d_64 := iEq c_63
                      refine y_Model_isWord hok hw ra hR (fun r_65 u_66 u_67 => ⟨r_65, I0, L0, rfl, rfl, ?_⟩)
                      have b_68 : 0 ≤ r_65.toInt ∧ r_65.toInt ≤ 1 := u_66.rg
                      refine ⟨fun c_69 => ?_, fun c_69 => ?_⟩
                      · have d_70 := iEq c_69
                        refine y_Model_isWord hok hw ra hR (fun r_71 u_72 u_73 => ⟨r_71, I0, L0, rfl, rfl, ?_⟩)
                        have b_74 : 0 ≤ r_71.toInt ∧ r_71.toInt ≤ 1 := u_72.rg
                        refine ⟨fun c_75 => ?_, fun c_75 => ?_⟩
                        · have d_76 := iEq c_75
                          unfold fModel_wordHere_170
                          have l_77 : (68 : Int32).toInt = 68 := rfl
                          refine ⟨fun c_78 => ?_, fun c_78 => ?_⟩
                          · have d_79 := iNe c_78
                            have l_80 : (115 : Int32).toInt = 115 := rfl
                            refine ⟨fun c_81 => ?_, fun c_81 => ?_⟩
                            · have d_82 := iEq c_81
                              exfalso; omega
                            · have d_83 := iNe c_81
                              have l_84 : (110 : Int32).toInt = 110 := rfl
                              refine ⟨fun c_85 => ?_, fun c_85 => ?_⟩
                              · have d_86 := iNe c_85
                                unfold fModel_wordHere_210
                                refine ⟨fun c_87 => ?_, fun c_87 => ?_⟩
                                · have d_88 := iEq c_87
                                  exact (hp _ _ _ hR hf (by first | (intro h; exfalso; omega) | (intro h; unfold isT; omega)) (by intro h; omega) (by first | omega | (intro h; omega) | exact Or.inl rfl | exact Or.inr rfl))
                                · have d_89 := iNe c_87
                                  exfalso; omega
                              · have d_90 := iEq c_85
                                exfalso; omega
                          · have d_91 := iEq c_78
                            exfalso; omega
                        · have d_92 := iNe c_75
                          have i_93 := u_73 (by omega)
                          unfold fModel_wordHere_170
                          have l_94 : (98 : Int32).toInt = 98 := rfl
                          have l_95 : (68 : Int32).toInt = 68 := rfl
                          refine ⟨fun c_96 => ?_, fun c_96 => ?_⟩
                          · have d_97 := iNe c_96
                            have l_98 : (115 : Int32).toInt = 115 := rfl
                            refine ⟨fun c_99 => ?_, fun c_99 => ?_⟩
                            · have d_100 := iEq c_99
                              exfalso; omega
                            · have d_101 := iNe c_99
                              have l_102 : (110 : Int32).toInt = 110 := rfl
                              refine ⟨fun c_103 => ?_, fun c_103 => ?_⟩
                              · have d_104 := iNe c_103
                                unfold fModel_wordHere_210
                                refine ⟨fun c_105 => ?_, fun c_105 => ?_⟩
                                · have d_106 := iEq c_105
                                  exfalso; omega
                                · have d_107 := iNe c_105
                                  refine ⟨fun c_108 => ?_, fun c_108 => ?_⟩
                                  · have d_109 := iNe c_108
                                    exfalso; omega
                                  · have d_110 := iEq c_108
                                    have g_111 : (0 : Int) ≤ (I0 o 46).toInt ∧ (I0 o 46).toInt ≤ 100 := hR.at0 ra 46 (by decide)
                                    have l_112 : (100 : Int32).toInt = 100 := rfl
                                    refine ⟨fun c_113 => ?_, fun c_113 => ?_⟩
                                    · have d_114 := iLe c_113
                                      exact (hp _ _ _ hR hf (by first | (intro h; exfalso; omega) | (intro h; unfold isT; omega)) (by intro h; omega) (by first | omega | (intro h; omega) | exact Or.inl rfl | exact Or.inr rfl))
                                    · have d_115 := iNle c_113
                                      have g_116 : (0 : Int) ≤ (I0 o 6).toInt ∧ (I0 o 6).toInt ≤ 1600 := hR.at0 ra 6 (by decide)
                                      refine y_Model_fails hok hw ra hz14 hz15 (by first | omega | (intro h; omega) | exact Or.inl rfl | exact Or.inr rfl) hR (fun I_120 L_121 hR_122 fr_123 kp_124 u_118 u_119 => ⟨I_120, L_121, rfl, rfl, ?_⟩)
                                      have hf_125 : Fm (fun c => c = o) I0 I_120 := hf.call fr_123 (fun c hc => by first | exact hc | (dsimp only at hc ⊢; omega) | omega)
                                      have t_126 : (I_120 o 3).toInt = (I0 o 3).toInt := by rw [kp_124 3 rfl]
                                      have g_127 : (0 : Int) ≤ (I_120 o 4).toInt ∧ (I_120 o 4).toInt ≤ 5 := hR_122.at0 ra 4 (by decide)
                                      have t_128 : (I_120 o 6).toInt = (I0 o 6).toInt := by rw [kp_124 6 rfl]
                                      have t_129 : (I_120 o 7).toInt = (I0 o 7).toInt := by rw [kp_124 7 rfl]
                                      have t_130 : (I_120 o 8).toInt = (I0 o 8).toInt := by rw [kp_124 8 rfl]
                                      have t_131 : (I_120 o 9).toInt = (I0 o 9).toInt := by rw [kp_124 9 rfl]
                                      have t_132 : (I_120 o 46).toInt = (I0 o 46).toInt := by rw [kp_124 46 rfl]
                                      exact (hp _ _ _ hR_122 hf_125 (by first | (intro h; exfalso; omega) | (intro h; unfold isT; omega)) (by intro h; omega) (by first | omega | (intro h; omega) | exact Or.inl rfl | exact Or.inr rfl))
                              · have d_133 := iEq c_103
                                exfalso; omega
                          · have d_134 := iEq c_96
                            exfalso; omega
                      · have d_135 := iNe c_69
                        have i_136 := u_67 (by omega)
                        unfold fModel_wordHere_170
                        have l_137 : (107 : Int32).toInt = 107 := rfl
                        have l_138 : (68 : Int32).toInt = 68 := rfl
                        refine ⟨fun c_139 => ?_, fun c_139 => ?_⟩
                        · have d_140 := iNe c_139
                          have l_141 : (115 : Int32).toInt = 115 := rfl
                          refine ⟨fun c_142 => ?_, fun c_142 => ?_⟩
                          · have d_143 := iEq c_142
                            exfalso; omega
                          · have d_144 := iNe c_142
                            have l_145 : (110 : Int32).toInt = 110 := rfl
                            refine ⟨fun c_146 => ?_, fun c_146 => ?_⟩
                            · have d_147 := iNe c_146
                              unfold fModel_wordHere_210
                              refine ⟨fun c_148 => ?_, fun c_148 => ?_⟩
                              · have d_149 := iEq c_148
                                exfalso; omega
                              · have d_150 := iNe c_148
                                refine ⟨fun c_151 => ?_, fun c_151 => ?_⟩
                                · have d_152 := iNe c_151
                                  exfalso; omega
                                · have d_153 := iEq c_151
                                  have g_154 : (0 : Int) ≤ (I0 o 46).toInt ∧ (I0 o 46).toInt ≤ 100 := hR.at0 ra 46 (by decide)
                                  have l_155 : (100 : Int32).toInt = 100 := rfl
                                  refine ⟨fun c_156 => ?_, fun c_156 => ?_⟩
                                  · have d_157 := iLe c_156
                                    exact (hp _ _ _ hR hf (by first | (intro h; exfalso; omega) | (intro h; unfold isT; omega)) (by intro h; omega) (by first | omega | (intro h; omega) | exact Or.inl rfl | exact Or.inr rfl))
                                  · have d_158 := iNle c_156
                                    have g_159 : (0 : Int) ≤ (I0 o 6).toInt ∧ (I0 o 6).toInt ≤ 1600 := hR.at0 ra 6 (by decide)
                                    refine y_Model_fails hok hw ra hz14 hz15 (by first | omega | (intro h; omega) | exact Or.inl rfl | exact Or.inr rfl) hR (fun I_163 L_164 hR_165 fr_166 kp_167 u_161 u_162 => ⟨I_163, L_164, rfl, rfl, ?_⟩)
                                    have hf_168 : Fm (fun c => c = o) I0 I_163 := hf.call fr_166 (fun c hc => by first | exact hc | (dsimp only at hc ⊢; omega) | omega)
                                    have t_169 : (I_163 o 3).toInt = (I0 o 3).toInt := by rw [kp_167 3 rfl]
                                    have g_170 : (0 : Int) ≤ (I_163 o 4).toInt ∧ (I_163 o 4).toInt ≤ 5 := hR_165.at0 ra 4 (by decide)
                                    have t_171 : (I_163 o 6).toInt = (I0 o 6).toInt := by rw [kp_167 6 rfl]
                                    have t_172 : (I_163 o 7).toInt = (I0 o 7).toInt := by rw [kp_167 7 rfl]
                                    have t_173 : (I_163 o 8).toInt = (I0 o 8).toInt := by rw [kp_167 8 rfl]
                                    have t_174 : (I_163 o 9).toInt = (I0 o 9).toInt := by rw [kp_167 9 rfl]
                                    have t_175 : (I_163 o 46).toInt = (I0 o 46).toInt := by rw [kp_167 46 rfl]
                                    exact (hp _ _ _ hR_165 hf_168 (by first | (intro h; exfalso; omega) | (intro h; unfold isT; omega)) (by intro h; omega) (by first | omega | (intro h; omega) | exact Or.inl rfl | exact Or.inr rfl))
                            · have d_176 := iEq c_146
                              exfalso; omega
                        · have d_177 := iEq c_139
                          exfalso; omega
                    · have d_178 := iNe c_63
                      have i_179 := u_61 (by omega)
                      unfold fModel_wordHere_170
                      have l_180 : (97 : Int32).toInt = 97 := rfl
                      have l_181 : (68 : Int32).toInt = 68 := rfl
                      refine ⟨fun c_182 => ?_, fun c_182 => ?_⟩
                      · have d_183 := iNe c_182
                        have l_184 : (115 : Int32).toInt = 115 := rfl
                        refine ⟨fun c_185 => ?_, fun c_185 => ?_⟩
                        · have d_186 := iEq c_185
                          exfalso; omega
                        · have d_187 := iNe c_185
                          have l_188 : (110 : Int32).toInt = 110 := rfl
                          refine ⟨fun c_189 => ?_, fun c_189 => ?_⟩
                          · have d_190 := iNe c_189
                            unfold fModel_wordHere_210
                            refine ⟨fun c_191 => ?_, fun c_191 => ?_⟩
                            · have d_192 := iEq c_191
                              exfalso; omega
                            · have d_193 := iNe c_191
                              refine ⟨fun c_194 => ?_, fun c_194 => ?_⟩
                              · have d_195 := iNe c_194
                                exfalso; omega
                              · have d_196 := iEq c_194
                                have g_197 : (0 : Int) ≤ (I0 o 46).toInt ∧ (I0 o 46).toInt ≤ 100 := hR.at0 ra 46 (by decide)
                                have l_198 : (100 : Int32).toInt = 100 := rfl
                                refine ⟨fun c_199 => ?_, fun c_199 => ?_⟩
                                · have d_200 := iLe c_199
                                  exact (hp _ _ _ hR hf (by first | (intro h; exfalso; omega) | (intro h; unfold isT; omega)) (by intro h; omega) (by first | omega | (intro h; omega) | exact Or.inl rfl | exact Or.inr rfl))
                                · have d_201 := iNle c_199
                                  have g_202 : (0 : Int) ≤ (I0 o 6).toInt ∧ (I0 o 6).toInt ≤ 1600 := hR.at0 ra 6 (by decide)
                                  refine y_Model_fails hok hw ra hz14 hz15 (by first | omega | (intro h; omega) | exact Or.inl rfl | exact Or.inr rfl) hR (fun I_206 L_207 hR_208 fr_209 kp_210 u_204 u_205 => ⟨I_206, L_207, rfl, rfl, ?_⟩)
                                  have hf_211 : Fm (fun c => c = o) I0 I_206 := hf.call fr_209 (fun c hc => by first | exact hc | (dsimp only at hc ⊢; omega) | omega)
                                  have t_212 : (I_206 o 3).toInt = (I0 o 3).toInt := by rw [kp_210 3 rfl]
                                  have g_213 : (0 : Int) ≤ (I_206 o 4).toInt ∧ (I_206 o 4).toInt ≤ 5 := hR_208.at0 ra 4 (by decide)
                                  have t_214 : (I_206 o 6).toInt = (I0 o 6).toInt := by rw [kp_210 6 rfl]
                                  have t_215 : (I_206 o 7).toInt = (I0 o 7).toInt := by rw [kp_210 7 rfl]
                                  have t_216 : (I_206 o 8).toInt = (I0 o 8).toInt := by rw [kp_210 8 rfl]
                                  have t_217 : (I_206 o 9).toInt = (I0 o 9).toInt := by rw [kp_210 9 rfl]
                                  have t_218 : (I_206 o 46).toInt = (I0 o 46).toInt := by rw [kp_210 46 rfl]
                                  exact (hp _ _ _ hR_208 hf_211 (by first | (intro h; exfalso; omega) | (intro h; unfold isT; omega)) (by intro h; omega) (by first | omega | (intro h; omega) | exact Or.inl rfl | exact Or.inr rfl))
                          · have d_219 := iEq c_189
                            exfalso; omega
                      · have d_220 := iEq c_182
                        exfalso; omega
                  · have d_221 := iNe c_56
                    have i_222 := u_54 (by omega)
                    unfold fModel_wordHere_170
                    have l_223 : (68 : Int32).toInt = 68 := rfl
                    refine ⟨fun c_224 => ?_, fun c_224 => ?_⟩
                    · have d_225 := iNe c_224
                      exfalso; omega
                    · have d_226 := iEq c_224
                      refine ⟨fun c_227 => ?_, fun c_227 => ?_⟩
                      · have d_228 := iNe c_227
                        exfalso; omega
                      · have d_229 := iEq c_227
                        refine ⟨fun c_230 => ?_, fun c_230 => ?_⟩
                        · have d_231 := iEq c_230
                          unfold fModel_wordHere_210
                          refine ⟨fun c_232 => ?_, fun c_232 => ?_⟩
                          · have d_233 := iEq c_232
                            exfalso; omega
                          · have d_234 := iNe c_232
                            refine ⟨fun c_235 => ?_, fun c_235 => ?_⟩
                            · have d_236 := iNe c_235
                              exfalso; omega
                            · have d_237 := iEq c_235
                              have g_238 : (0 : Int) ≤ (I0 o 46).toInt ∧ (I0 o 46).toInt ≤ 100 := hR.at0 ra 46 (by decide)
                              have l_239 : (100 : Int32).toInt = 100 := rfl
                              refine ⟨fun c_240 => ?_, fun c_240 => ?_⟩
                              · have d_241 := iLe c_240
                                exact (hp _ _ _ hR hf (by first | (intro h; exfalso; omega) | (intro h; unfold isT; omega)) (by intro h; omega) (by first | omega | (intro h; omega) | exact Or.inl rfl | exact Or.inr rfl))
                              · have d_242 := iNle c_240
                                have g_243 : (0 : Int) ≤ (I0 o 6).toInt ∧ (I0 o 6).toInt ≤ 1600 := hR.at0 ra 6 (by decide)
                                refine y_Model_fails hok hw ra hz14 hz15 (by first | omega | (intro h; omega) | exact Or.inl rfl | exact Or.inr rfl) hR (fun I_247 L_248 hR_249 fr_250 kp_251 u_245 u_246 => ⟨I_247, L_248, rfl, rfl, ?_⟩)
                                have hf_252 : Fm (fun c => c = o) I0 I_247 := hf.call fr_250 (fun c hc => by first | exact hc | (dsimp only at hc ⊢; omega) | omega)
                                have t_253 : (I_247 o 3).toInt = (I0 o 3).toInt := by rw [kp_251 3 rfl]
                                have g_254 : (0 : Int) ≤ (I_247 o 4).toInt ∧ (I_247 o 4).toInt ≤ 5 := hR_249.at0 ra 4 (by decide)
                                have t_255 : (I_247 o 6).toInt = (I0 o 6).toInt := by rw [kp_251 6 rfl]
                                have t_256 : (I_247 o 7).toInt = (I0 o 7).toInt := by rw [kp_251 7 rfl]
                                have t_257 : (I_247 o 8).toInt = (I0 o 8).toInt := by rw [kp_251 8 rfl]
                                have t_258 : (I_247 o 9).toInt = (I0 o 9).toInt := by rw [kp_251 9 rfl]
                                have t_259 : (I_247 o 46).toInt = (I0 o 46).toInt := by rw [kp_251 46 rfl]
                                exact (hp _ _ _ hR_249 hf_252 (by first | (intro h; exfalso; omega) | (intro h; unfold isT; omega)) (by intro h; omega) (by first | omega | (intro h; omega) | exact Or.inl rfl | exact Or.inr rfl))
                        · have d_260 := iNe c_230
                          exfalso; omega
                · have d_261 := iNe c_49
                  have i_262 := u_47 (by omega)
                  unfold fModel_wordHere_170
                  have l_263 : (110 : Int32).toInt = 110 := rfl
                  have l_264 : (68 : Int32).toInt = 68 := rfl
                  refine ⟨fun c_265 => ?_, fun c_265 => ?_⟩
                  · have d_266 := iNe c_265
                    have l_267 : (115 : Int32).toInt = 115 := rfl
                    refine ⟨fun c_268 => ?_, fun c_268 => ?_⟩
                    · have d_269 := iEq c_268
                      exfalso; omega
                    · have d_270 := iNe c_268
                      refine ⟨fun c_271 => ?_, fun c_271 => ?_⟩
                      · have d_272 := iNe c_271
                        exfalso; omega
                      · have d_273 := iEq c_271
                        unfold fModel_wordHere_205
                        unfold fModel_wordHere_210
                        refine ⟨fun c_274 => ?_, fun c_274 => ?_⟩
                        · have d_275 := iEq c_274
                          exfalso; omega
                        · have d_276 := iNe c_274
                          refine ⟨fun c_277 => ?_, fun c_277 => ?_⟩
                          · have d_278 := iNe c_277
                            exfalso; omega
                          · have d_279 := iEq c_277
                            have g_280 : (0 : Int) ≤ (I0 o 46).toInt ∧ (I0 o 46).toInt ≤ 100 := hR.at0 ra 46 (by decide)
                            have l_281 : (100 : Int32).toInt = 100 := rfl
                            refine ⟨fun c_282 => ?_, fun c_282 => ?_⟩
                            · have d_283 := iLe c_282
                              exact (hp _ _ _ hR hf (by first | (intro h; exfalso; omega) | (intro h; unfold isT; omega)) (by intro h; omega) (by first | omega | (intro h; omega) | exact Or.inl rfl | exact Or.inr rfl))
                            · have d_284 := iNle c_282
                              have g_285 : (0 : Int) ≤ (I0 o 6).toInt ∧ (I0 o 6).toInt ≤ 1600 := hR.at0 ra 6 (by decide)
                              refine y_Model_fails hok hw ra hz14 hz15 (by first | omega | (intro h; omega) | exact Or.inl rfl | exact Or.inr rfl) hR (fun I_289 L_290 hR_291 fr_292 kp_293 u_287 u_288 => ⟨I_289, L_290, rfl, rfl, ?_⟩)
                              have hf_294 : Fm (fun c => c = o) I0 I_289 := hf.call fr_292 (fun c hc => by first | exact hc | (dsimp only at hc ⊢; omega) | omega)
                              have t_295 : (I_289 o 3).toInt = (I0 o 3).toInt := by rw [kp_293 3 rfl]
                              have g_296 : (0 : Int) ≤ (I_289 o 4).toInt ∧ (I_289 o 4).toInt ≤ 5 := hR_291.at0 ra 4 (by decide)
                              have t_297 : (I_289 o 6).toInt = (I0 o 6).toInt := by rw [kp_293 6 rfl]
                              have t_298 : (I_289 o 7).toInt = (I0 o 7).toInt := by rw [kp_293 7 rfl]
                              have t_299 : (I_289 o 8).toInt = (I0 o 8).toInt := by rw [kp_293 8 rfl]
                              have t_300 : (I_289 o 9).toInt = (I0 o 9).toInt := by rw [kp_293 9 rfl]
                              have t_301 : (I_289 o 46).toInt = (I0 o 46).toInt := by rw [kp_293 46 rfl]
                              exact (hp _ _ _ hR_291 hf_294 (by first | (intro h; exfalso; omega) | (intro h; unfold isT; omega)) (by intro h; omega) (by first | omega | (intro h; omega) | exact Or.inl rfl | exact Or.inr rfl))
                  · have d_302 := iEq c_265
                    exfalso; omega
              · have d_303 := iNe c_42
                have i_304 := u_40 (by omega)
                unfold fModel_wordHere_170
                have l_305 : (115 : Int32).toInt = 115 := rfl
                have l_306 : (68 : Int32).toInt = 68 := rfl
                refine ⟨fun c_307 => ?_, fun c_307 => ?_⟩
                · have d_308 := iNe c_307
                  refine ⟨fun c_309 => ?_, fun c_309 => ?_⟩
                  · have d_310 := iEq c_309
                    unfold fModel_wordHere_205
                    unfold fModel_wordHere_210
                    refine ⟨fun c_311 => ?_, fun c_311 => ?_⟩
                    · have d_312 := iEq c_311
                      exfalso; omega
                    · have d_313 := iNe c_311
                      refine ⟨fun c_314 => ?_, fun c_314 => ?_⟩
                      · have d_315 := iNe c_314
                        exfalso; omega
                      · have d_316 := iEq c_314
                        have g_317 : (0 : Int) ≤ (I0 o 46).toInt ∧ (I0 o 46).toInt ≤ 100 := hR.at0 ra 46 (by decide)
                        have l_318 : (100 : Int32).toInt = 100 := rfl
                        refine ⟨fun c_319 => ?_, fun c_319 => ?_⟩
                        · have d_320 := iLe c_319
                          exact (hp _ _ _ hR hf (by first | (intro h; exfalso; omega) | (intro h; unfold isT; omega)) (by intro h; omega) (by first | omega | (intro h; omega) | exact Or.inl rfl | exact Or.inr rfl))
                        · have d_321 := iNle c_319
                          have g_322 : (0 : Int) ≤ (I0 o 6).toInt ∧ (I0 o 6).toInt ≤ 1600 := hR.at0 ra 6 (by decide)
                          refine y_Model_fails hok hw ra hz14 hz15 (by first | omega | (intro h; omega) | exact Or.inl rfl | exact Or.inr rfl) hR (fun I_326 L_327 hR_328 fr_329 kp_330 u_324 u_325 => ⟨I_326, L_327, rfl, rfl, ?_⟩)
                          have hf_331 : Fm (fun c => c = o) I0 I_326 := hf.call fr_329 (fun c hc => by first | exact hc | (dsimp only at hc ⊢; omega) | omega)
                          have t_332 : (I_326 o 3).toInt = (I0 o 3).toInt := by rw [kp_330 3 rfl]
                          have g_333 : (0 : Int) ≤ (I_326 o 4).toInt ∧ (I_326 o 4).toInt ≤ 5 := hR_328.at0 ra 4 (by decide)
                          have t_334 : (I_326 o 6).toInt = (I0 o 6).toInt := by rw [kp_330 6 rfl]
                          have t_335 : (I_326 o 7).toInt = (I0 o 7).toInt := by rw [kp_330 7 rfl]
                          have t_336 : (I_326 o 8).toInt = (I0 o 8).toInt := by rw [kp_330 8 rfl]
                          have t_337 : (I_326 o 9).toInt = (I0 o 9).toInt := by rw [kp_330 9 rfl]
                          have t_338 : (I_326 o 46).toInt = (I0 o 46).toInt := by rw [kp_330 46 rfl]
                          exact (hp _ _ _ hR_328 hf_331 (by first | (intro h; exfalso; omega) | (intro h; unfold isT; omega)) (by intro h; omega) (by first | omega | (intro h; omega) | exact Or.inl rfl | exact Or.inr rfl))
                  · have d_339 := iNe c_309
                    exfalso; omega
                · have d_340 := iEq c_307
                  exfalso; omega
            · have d_341 := iNlt c_36
              unfold fModel_wordHere_78
              have l_342 : (1 : Int32).toInt = 1 := rfl
              refine y_Model_isWord hok hw ra hR (fun r_343 u_344 u_345 => ⟨r_343, I0, L0, rfl, rfl, ?_⟩)
              have b_346 : 0 ≤ r_343.toInt ∧ r_343.toInt ≤ 1 := u_344.rg
              refine ⟨fun c_347 => ?_, fun c_347 => ?_⟩
              · have d_348 := iEq c_347
                have l_349 : (1852138852 : Int32).toInt = 1852138852 := rfl
                refine y_Model_isWord hok hw ra hR (fun r_350 u_351 u_352 => ⟨r_350, I0, L0, rfl, rfl, ?_⟩)
                have b_353 : 0 ≤ r_350.toInt ∧ r_350.toInt ≤ 1 := u_351.rg
                refine ⟨fun c_354 => ?_, fun c_354 => ?_⟩
                · have d_355 := iEq c_354
                  have l_356 : (1684109683 : Int32).toInt = 1684109683 := rfl
                  refine y_Model_isWord hok hw ra hR (fun r_357 u_358 u_359 => ⟨r_357, I0, L0, rfl, rfl, ?_⟩)
                  have b_360 : 0 ≤ r_357.toInt ∧ r_357.toInt ≤ 1 := u_358.rg
                  refine ⟨fun c_361 => ?_, fun c_361 => ?_⟩
                  · have d_362 := iEq c_361
                    have l_363 : (6383461 : Int32).toInt = 6383461 := rfl
                    refine y_Model_isWord hok hw ra hR (fun r_364 u_365 u_366 => ⟨r_364, I0, L0, rfl, rfl, ?_⟩)
                    have b_367 : 0 ≤ r_364.toInt ∧ r_364.toInt ≤ 1 := u_365.rg
                    refine ⟨fun c_368 => ?_, fun c_368 => ?_⟩
                    · have d_369 := iEq c_368
                      refine y_Model_isWord hok hw ra hR (fun r_370 u_371 u_372 => ⟨r_370, I0, L0, rfl, rfl, ?_⟩)
                      have b_373 : 0 ≤ r_370.toInt ∧ r_370.toInt ≤ 1 := u_371.rg
                      refine ⟨fun c_374 => ?_, fun c_374 => ?_⟩
                      · have d_375 := iEq c_374
                        refine y_Model_isWord hok hw ra hR (fun r_376 u_377 u_378 => ⟨r_376, I0, L0, rfl, rfl, ?_⟩)
                        have b_379 : 0 ≤ r_376.toInt ∧ r_376.toInt ≤ 1 := u_377.rg
                        refine ⟨fun c_380 => ?_, fun c_380 => ?_⟩
                        · have d_381 := iEq c_380
                          unfold fModel_wordHere_170
                          have l_382 : (68 : Int32).toInt = 68 := rfl
                          refine ⟨fun c_383 => ?_, fun c_383 => ?_⟩
                          · have d_384 := iNe c_383
                            have l_385 : (115 : Int32).toInt = 115 := rfl
                            refine ⟨fun c_386 => ?_, fun c_386 => ?_⟩
                            · have d_387 := iEq c_386
                              exfalso; omega
                            · have d_388 := iNe c_386
                              have l_389 : (110 : Int32).toInt = 110 := rfl
                              refine ⟨fun c_390 => ?_, fun c_390 => ?_⟩
                              · have d_391 := iNe c_390
                                unfold fModel_wordHere_210
                                refine ⟨fun c_392 => ?_, fun c_392 => ?_⟩
                                · have d_393 := iEq c_392
                                  exact (hp _ _ _ hR hf (by first | (intro h; exfalso; omega) | (intro h; unfold isT; omega)) (by intro h; omega) (by first | omega | (intro h; omega) | exact Or.inl rfl | exact Or.inr rfl))
                                · have d_394 := iNe c_392
                                  exfalso; omega
                              · have d_395 := iEq c_390
                                exfalso; omega
                          · have d_396 := iEq c_383
                            exfalso; omega
                        · have d_397 := iNe c_380
                          have i_398 := u_378 (by omega)
                          unfold fModel_wordHere_170
                          have l_399 : (98 : Int32).toInt = 98 := rfl
                          have l_400 : (68 : Int32).toInt = 68 := rfl
                          refine ⟨fun c_401 => ?_, fun c_401 => ?_⟩
                          · have d_402 := iNe c_401
                            have l_403 : (115 : Int32).toInt = 115 := rfl
                            refine ⟨fun c_404 => ?_, fun c_404 => ?_⟩
                            · have d_405 := iEq c_404
                              exfalso; omega
                            · have d_406 := iNe c_404
                              have l_407 : (110 : Int32).toInt = 110 := rfl
                              refine ⟨fun c_408 => ?_, fun c_408 => ?_⟩
                              · have d_409 := iNe c_408
                                unfold fModel_wordHere_210
                                refine ⟨fun c_410 => ?_, fun c_410 => ?_⟩
                                · have d_411 := iEq c_410
                                  exfalso; omega
                                · have d_412 := iNe c_410
                                  refine ⟨fun c_413 => ?_, fun c_413 => ?_⟩
                                  · have d_414 := iNe c_413
                                    exact (hp _ _ _ hR hf (by first | (intro h; exfalso; omega) | (intro h; unfold isT; omega)) (by intro h; omega) (by first | omega | (intro h; omega) | exact Or.inl rfl | exact Or.inr rfl))
                                  · have d_415 := iEq c_413
                                    exfalso; omega
                              · have d_416 := iEq c_408
                                exfalso; omega
                          · have d_417 := iEq c_401
                            exfalso; omega
                      · have d_418 := iNe c_374
                        have i_419 := u_372 (by omega)
                        unfold fModel_wordHere_170
                        have l_420 : (107 : Int32).toInt = 107 := rfl
                        have l_421 : (68 : Int32).toInt = 68 := rfl
                        refine ⟨fun c_422 => ?_, fun c_422 => ?_⟩
                        · have d_423 := iNe c_422
                          have l_424 : (115 : Int32).toInt = 115 := rfl
                          refine ⟨fun c_425 => ?_, fun c_425 => ?_⟩
                          · have d_426 := iEq c_425
                            exfalso; omega
                          · have d_427 := iNe c_425
                            have l_428 : (110 : Int32).toInt = 110 := rfl
                            refine ⟨fun c_429 => ?_, fun c_429 => ?_⟩
                            · have d_430 := iNe c_429
                              unfold fModel_wordHere_210
                              refine ⟨fun c_431 => ?_, fun c_431 => ?_⟩
                              · have d_432 := iEq c_431
                                exfalso; omega
                              · have d_433 := iNe c_431
                                refine ⟨fun c_434 => ?_, fun c_434 => ?_⟩
                                · have d_435 := iNe c_434
                                  exact (hp _ _ _ hR hf (by first | (intro h; exfalso; omega) | (intro h; unfold isT; omega)) (by intro h; omega) (by first | omega | (intro h; omega) | exact Or.inl rfl | exact Or.inr rfl))
                                · have d_436 := iEq c_434
                                  exfalso; omega
                            · have d_437 := iEq c_429
                              exfalso; omega
                        · have d_438 := iEq c_422
                          exfalso; omega
                    · have d_439 := iNe c_368
                      have i_440 := u_366 (by omega)
                      unfold fModel_wordHere_170
                      have l_441 : (97 : Int32).toInt = 97 := rfl
                      have l_442 : (68 : Int32).toInt = 68 := rfl
                      refine ⟨fun c_443 => ?_, fun c_443 => ?_⟩
                      · have d_444 := iNe c_443
                        have l_445 : (115 : Int32).toInt = 115 := rfl
                        refine ⟨fun c_446 => ?_, fun c_446 => ?_⟩
                        · have d_447 := iEq c_446
                          exfalso; omega
                        · have d_448 := iNe c_446
                          have l_449 : (110 : Int32).toInt = 110 := rfl
                          refine ⟨fun c_450 => ?_, fun c_450 => ?_⟩
                          · have d_451 := iNe c_450
                            unfold fModel_wordHere_210
                            refine ⟨fun c_452 => ?_, fun c_452 => ?_⟩
                            · have d_453 := iEq c_452
                              exfalso; omega
                            · have d_454 := iNe c_452
                              refine ⟨fun c_455 => ?_, fun c_455 => ?_⟩
                              · have d_456 := iNe c_455
                                exact (hp _ _ _ hR hf (by first | (intro h; exfalso; omega) | (intro h; unfold isT; omega)) (by intro h; omega) (by first | omega | (intro h; omega) | exact Or.inl rfl | exact Or.inr rfl))
                              · have d_457 := iEq c_455
                                exfalso; omega
                          · have d_458 := iEq c_450
                            exfalso; omega
                      · have d_459 := iEq c_443
                        exfalso; omega
                  · have d_460 := iNe c_361
                    have i_461 := u_359 (by omega)
                    unfold fModel_wordHere_170
                    have l_462 : (68 : Int32).toInt = 68 := rfl
                    refine ⟨fun c_463 => ?_, fun c_463 => ?_⟩
                    · have d_464 := iNe c_463
                      exfalso; omega
                    · have d_465 := iEq c_463
                      refine ⟨fun c_466 => ?_, fun c_466 => ?_⟩
                      · have d_467 := iNe c_466
                        exfalso; omega
                      · have d_468 := iEq c_466
                        refine ⟨fun c_469 => ?_, fun c_469 => ?_⟩
                        · have d_470 := iEq c_469
                          exfalso; omega
                        · have d_471 := iNe c_469
                          unfold fModel_wordHere_185
                          unfold fModel_wordHere_210
                          refine ⟨fun c_472 => ?_, fun c_472 => ?_⟩
                          · have d_473 := iEq c_472
                            exfalso; omega
                          · have d_474 := iNe c_472
                            refine ⟨fun c_475 => ?_, fun c_475 => ?_⟩
                            · have d_476 := iNe c_475
                              exact (hp _ _ _ hR hf (by first | (intro h; exfalso; omega) | (intro h; unfold isT; omega)) (by intro h; omega) (by first | omega | (intro h; omega) | exact Or.inl rfl | exact Or.inr rfl))
                            · have d_477 := iEq c_475
                              exfalso; omega
                · have d_478 := iNe c_354
                  have i_479 := u_352 (by omega)
                  unfold fModel_wordHere_170
                  have l_480 : (110 : Int32).toInt = 110 := rfl
                  have l_481 : (68 : Int32).toInt = 68 := rfl
                  refine ⟨fun c_482 => ?_, fun c_482 => ?_⟩
                  · have d_483 := iNe c_482
                    have l_484 : (115 : Int32).toInt = 115 := rfl
                    refine ⟨fun c_485 => ?_, fun c_485 => ?_⟩
                    · have d_486 := iEq c_485
                      exfalso; omega
                    · have d_487 := iNe c_485
                      refine ⟨fun c_488 => ?_, fun c_488 => ?_⟩
                      · have d_489 := iNe c_488
                        exfalso; omega
                      · have d_490 := iEq c_488
                        unfold fModel_wordHere_205
                        unfold fModel_wordHere_210
                        refine ⟨fun c_491 => ?_, fun c_491 => ?_⟩
                        · have d_492 := iEq c_491
                          exfalso; omega
                        · have d_493 := iNe c_491
                          refine ⟨fun c_494 => ?_, fun c_494 => ?_⟩
                          · have d_495 := iNe c_494
                            exfalso; omega
                          · have d_496 := iEq c_494
                            have g_497 : (0 : Int) ≤ (I0 o 46).toInt ∧ (I0 o 46).toInt ≤ 100 := hR.at0 ra 46 (by decide)
                            have l_498 : (100 : Int32).toInt = 100 := rfl
                            refine ⟨fun c_499 => ?_, fun c_499 => ?_⟩
                            · have d_500 := iLe c_499
                              exact (hp _ _ _ hR hf (by first | (intro h; exfalso; omega) | (intro h; unfold isT; omega)) (by intro h; omega) (by first | omega | (intro h; omega) | exact Or.inl rfl | exact Or.inr rfl))
                            · have d_501 := iNle c_499
                              have g_502 : (0 : Int) ≤ (I0 o 6).toInt ∧ (I0 o 6).toInt ≤ 1600 := hR.at0 ra 6 (by decide)
                              refine y_Model_fails hok hw ra hz14 hz15 (by first | omega | (intro h; omega) | exact Or.inl rfl | exact Or.inr rfl) hR (fun I_506 L_507 hR_508 fr_509 kp_510 u_504 u_505 => ⟨I_506, L_507, rfl, rfl, ?_⟩)
                              have hf_511 : Fm (fun c => c = o) I0 I_506 := hf.call fr_509 (fun c hc => by first | exact hc | (dsimp only at hc ⊢; omega) | omega)
                              have t_512 : (I_506 o 3).toInt = (I0 o 3).toInt := by rw [kp_510 3 rfl]
                              have g_513 : (0 : Int) ≤ (I_506 o 4).toInt ∧ (I_506 o 4).toInt ≤ 5 := hR_508.at0 ra 4 (by decide)
                              have t_514 : (I_506 o 6).toInt = (I0 o 6).toInt := by rw [kp_510 6 rfl]
                              have t_515 : (I_506 o 7).toInt = (I0 o 7).toInt := by rw [kp_510 7 rfl]
                              have t_516 : (I_506 o 8).toInt = (I0 o 8).toInt := by rw [kp_510 8 rfl]
                              have t_517 : (I_506 o 9).toInt = (I0 o 9).toInt := by rw [kp_510 9 rfl]
                              have t_518 : (I_506 o 46).toInt = (I0 o 46).toInt := by rw [kp_510 46 rfl]
                              exact (hp _ _ _ hR_508 hf_511 (by first | (intro h; exfalso; omega) | (intro h; unfold isT; omega)) (by intro h; omega) (by first | omega | (intro h; omega) | exact Or.inl rfl | exact Or.inr rfl))
                  · have d_519 := iEq c_482
                    exfalso; omega
              · have d_520 := iNe c_347
                have i_521 := u_345 (by omega)
                unfold fModel_wordHere_170
                have l_522 : (115 : Int32).toInt = 115 := rfl
                have l_523 : (68 : Int32).toInt = 68 := rfl
                refine ⟨fun c_524 => ?_, fun c_524 => ?_⟩
                · have d_525 := iNe c_524
                  refine ⟨fun c_526 => ?_, fun c_526 => ?_⟩
                  · have d_527 := iEq c_526
                    unfold fModel_wordHere_205
                    unfold fModel_wordHere_210
                    refine ⟨fun c_528 => ?_, fun c_528 => ?_⟩
                    · have d_529 := iEq c_528
                      exfalso; omega
                    · have d_530 := iNe c_528
                      refine ⟨fun c_531 => ?_, fun c_531 => ?_⟩
                      · have d_532 := iNe c_531
                        exfalso; omega
                      · have d_533 := iEq c_531
                        have g_534 : (0 : Int) ≤ (I0 o 46).toInt ∧ (I0 o 46).toInt ≤ 100 := hR.at0 ra 46 (by decide)
                        have l_535 : (100 : Int32).toInt = 100 := rfl
                        refine ⟨fun c_536 => ?_, fun c_536 => ?_⟩
                        · have d_537 := iLe c_536
                          exact (hp _ _ _ hR hf (by first | (intro h; exfalso; omega) | (intro h; unfold isT; omega)) (by intro h; omega) (by first | omega | (intro h; omega) | exact Or.inl rfl | exact Or.inr rfl))
                        · have d_538 := iNle c_536
                          have g_539 : (0 : Int) ≤ (I0 o 6).toInt ∧ (I0 o 6).toInt ≤ 1600 := hR.at0 ra 6 (by decide)
                          refine y_Model_fails hok hw ra hz14 hz15 (by first | omega | (intro h; omega) | exact Or.inl rfl | exact Or.inr rfl) hR (fun I_543 L_544 hR_545 fr_546 kp_547 u_541 u_542 => ⟨I_543, L_544, rfl, rfl, ?_⟩)
                          have hf_548 : Fm (fun c => c = o) I0 I_543 := hf.call fr_546 (fun c hc => by first | exact hc | (dsimp only at hc ⊢; omega) | omega)
                          have t_549 : (I_543 o 3).toInt = (I0 o 3).toInt := by rw [kp_547 3 rfl]
                          have g_550 : (0 : Int) ≤ (I_543 o 4).toInt ∧ (I_543 o 4).toInt ≤ 5 := hR_545.at0 ra 4 (by decide)
                          have t_551 : (I_543 o 6).toInt = (I0 o 6).toInt := by rw [kp_547 6 rfl]
                          have t_552 : (I_543 o 7).toInt = (I0 o 7).toInt := by rw [kp_547 7 rfl]
                          have t_553 : (I_543 o 8).toInt = (I0 o 8).toInt := by rw [kp_547 8 rfl]
                          have t_554 : (I_543 o 9).toInt = (I0 o 9).toInt := by rw [kp_547 9 rfl]
                          have t_555 : (I_543 o 46).toInt = (I0 o 46).toInt := by rw [kp_547 46 rfl]
                          exact (hp _ _ _ hR_545 hf_548 (by first | (intro h; exfalso; omega) | (intro h; unfold isT; omega)) (by intro h; omega) (by first | omega | (intro h; omega) | exact Or.inl rfl | exact Or.inr rfl))
                  · have d_556 := iNe c_526
                    exfalso; omega
                · have d_557 := iEq c_524
                  exfalso; omega
          · have d_558 := iEq c_33
            unfold fModel_wordHere_64
            have l_559 : (1 : Int32).toInt = 1 := rfl
            have l_560 : (5 : Int32).toInt = 5 := rfl
            refine ⟨fun c_561 => ?_, fun c_561 => ?_⟩
            · have d_562 := iLt c_561
              unfold fModel_wordHere_78
              refine y_Model_isWord hok hw ra hR (fun r_563 u_564 u_565 => ⟨r_563, I0, L0, rfl, rfl, ?_⟩)
              have b_566 : 0 ≤ r_563.toInt ∧ r_563.toInt ≤ 1 := u_564.rg
              refine ⟨fun c_567 => ?_, fun c_567 => ?_⟩
              · have d_568 := iEq c_567
                have l_569 : (1852138852 : Int32).toInt = 1852138852 := rfl
                refine y_Model_isWord hok hw ra hR (fun r_570 u_571 u_572 => ⟨r_570, I0, L0, rfl, rfl, ?_⟩)
                have b_573 : 0 ≤ r_570.toInt ∧ r_570.toInt ≤ 1 := u_571.rg
                refine ⟨fun c_574 => ?_, fun c_574 => ?_⟩
                · have d_575 := iEq c_574
                  have l_576 : (1684109683 : Int32).toInt = 1684109683 := rfl
                  refine y_Model_isWord hok hw ra hR (fun r_577 u_578 u_579 => ⟨r_577, I0, L0, rfl, rfl, ?_⟩)
                  have b_580 : 0 ≤ r_577.toInt ∧ r_577.toInt ≤ 1 := u_578.rg
                  refine ⟨fun c_581 => ?_, fun c_581 => ?_⟩
                  · have d_582 := iEq c_581
                    have l_583 : (6383461 : Int32).toInt = 6383461 := rfl
                    refine y_Model_isWord hok hw ra hR (fun r_584 u_585 u_586 => ⟨r_584, I0, L0, rfl, rfl, ?_⟩)
                    have b_587 : 0 ≤ r_584.toInt ∧ r_584.toInt ≤ 1 := u_585.rg
                    refine ⟨fun c_588 => ?_, fun c_588 => ?_⟩
                    · have d_589 := iEq c_588
                      refine y_Model_isWord hok hw ra hR (fun r_590 u_591 u_592 => ⟨r_590, I0, L0, rfl, rfl, ?_⟩)
                      have b_593 : 0 ≤ r_590.toInt ∧ r_590.toInt ≤ 1 := u_591.rg
                      refine ⟨fun c_594 => ?_, fun c_594 => ?_⟩
                      · have d_595 := iEq c_594
                        refine y_Model_isWord hok hw ra hR (fun r_596 u_597 u_598 => ⟨r_596, I0, L0, rfl, rfl, ?_⟩)
                        have b_599 : 0 ≤ r_596.toInt ∧ r_596.toInt ≤ 1 := u_597.rg
                        refine ⟨fun c_600 => ?_, fun c_600 => ?_⟩
                        · have d_601 := iEq c_600
                          unfold fModel_wordHere_170
                          have l_602 : (68 : Int32).toInt = 68 := rfl
                          refine ⟨fun c_603 => ?_, fun c_603 => ?_⟩
                          · have d_604 := iNe c_603
                            have l_605 : (115 : Int32).toInt = 115 := rfl
                            refine ⟨fun c_606 => ?_, fun c_606 => ?_⟩
                            · have d_607 := iEq c_606
                              exfalso; omega
                            · have d_608 := iNe c_606
                              have l_609 : (110 : Int32).toInt = 110 := rfl
                              refine ⟨fun c_610 => ?_, fun c_610 => ?_⟩
                              · have d_611 := iNe c_610
                                unfold fModel_wordHere_210
                                refine ⟨fun c_612 => ?_, fun c_612 => ?_⟩
                                · have d_613 := iEq c_612
                                  exact (hp _ _ _ hR hf (by first | (intro h; exfalso; omega) | (intro h; unfold isT; omega)) (by intro h; omega) (by first | omega | (intro h; omega) | exact Or.inl rfl | exact Or.inr rfl))
                                · have d_614 := iNe c_612
                                  exfalso; omega
                              · have d_615 := iEq c_610
                                exfalso; omega
                          · have d_616 := iEq c_603
                            exfalso; omega
                        · have d_617 := iNe c_600
                          have i_618 := u_598 (by omega)
                          unfold fModel_wordHere_170
                          have l_619 : (98 : Int32).toInt = 98 := rfl
                          have l_620 : (68 : Int32).toInt = 68 := rfl
                          refine ⟨fun c_621 => ?_, fun c_621 => ?_⟩
                          · have d_622 := iNe c_621
                            have l_623 : (115 : Int32).toInt = 115 := rfl
                            refine ⟨fun c_624 => ?_, fun c_624 => ?_⟩
                            · have d_625 := iEq c_624
                              exfalso; omega
                            · have d_626 := iNe c_624
                              have l_627 : (110 : Int32).toInt = 110 := rfl
                              refine ⟨fun c_628 => ?_, fun c_628 => ?_⟩
                              · have d_629 := iNe c_628
                                unfold fModel_wordHere_210
                                refine ⟨fun c_630 => ?_, fun c_630 => ?_⟩
                                · have d_631 := iEq c_630
                                  exfalso; omega
                                · have d_632 := iNe c_630
                                  refine ⟨fun c_633 => ?_, fun c_633 => ?_⟩
                                  · have d_634 := iNe c_633
                                    exfalso; omega
                                  · have d_635 := iEq c_633
                                    have g_636 : (0 : Int) ≤ (I0 o 46).toInt ∧ (I0 o 46).toInt ≤ 100 := hR.at0 ra 46 (by decide)
                                    have l_637 : (100 : Int32).toInt = 100 := rfl
                                    refine ⟨fun c_638 => ?_, fun c_638 => ?_⟩
                                    · have d_639 := iLe c_638
                                      exact (hp _ _ _ hR hf (by first | (intro h; exfalso; omega) | (intro h; unfold isT; omega)) (by intro h; omega) (by first | omega | (intro h; omega) | exact Or.inl rfl | exact Or.inr rfl))
                                    · have d_640 := iNle c_638
                                      have g_641 : (0 : Int) ≤ (I0 o 6).toInt ∧ (I0 o 6).toInt ≤ 1600 := hR.at0 ra 6 (by decide)
                                      refine y_Model_fails hok hw ra hz14 hz15 (by first | omega | (intro h; omega) | exact Or.inl rfl | exact Or.inr rfl) hR (fun I_645 L_646 hR_647 fr_648 kp_649 u_643 u_644 => ⟨I_645, L_646, rfl, rfl, ?_⟩)
                                      have hf_650 : Fm (fun c => c = o) I0 I_645 := hf.call fr_648 (fun c hc => by first | exact hc | (dsimp only at hc ⊢; omega) | omega)
                                      have t_651 : (I_645 o 3).toInt = (I0 o 3).toInt := by rw [kp_649 3 rfl]
                                      have g_652 : (0 : Int) ≤ (I_645 o 4).toInt ∧ (I_645 o 4).toInt ≤ 5 := hR_647.at0 ra 4 (by decide)
                                      have t_653 : (I_645 o 6).toInt = (I0 o 6).toInt := by rw [kp_649 6 rfl]
                                      have t_654 : (I_645 o 7).toInt = (I0 o 7).toInt := by rw [kp_649 7 rfl]
                                      have t_655 : (I_645 o 8).toInt = (I0 o 8).toInt := by rw [kp_649 8 rfl]
                                      have t_656 : (I_645 o 9).toInt = (I0 o 9).toInt := by rw [kp_649 9 rfl]
                                      have t_657 : (I_645 o 46).toInt = (I0 o 46).toInt := by rw [kp_649 46 rfl]
                                      exact (hp _ _ _ hR_647 hf_650 (by first | (intro h; exfalso; omega) | (intro h; unfold isT; omega)) (by intro h; omega) (by first | omega | (intro h; omega) | exact Or.inl rfl | exact Or.inr rfl))
                              · have d_658 := iEq c_628
                                exfalso; omega
                          · have d_659 := iEq c_621
                            exfalso; omega
                      · have d_660 := iNe c_594
                        have i_661 := u_592 (by omega)
                        unfold fModel_wordHere_170
                        have l_662 : (107 : Int32).toInt = 107 := rfl
                        have l_663 : (68 : Int32).toInt = 68 := rfl
                        refine ⟨fun c_664 => ?_, fun c_664 => ?_⟩
                        · have d_665 := iNe c_664
                          have l_666 : (115 : Int32).toInt = 115 := rfl
                          refine ⟨fun c_667 => ?_, fun c_667 => ?_⟩
                          · have d_668 := iEq c_667
                            exfalso; omega
                          · have d_669 := iNe c_667
                            have l_670 : (110 : Int32).toInt = 110 := rfl
                            refine ⟨fun c_671 => ?_, fun c_671 => ?_⟩
                            · have d_672 := iNe c_671
                              unfold fModel_wordHere_210
                              refine ⟨fun c_673 => ?_, fun c_673 => ?_⟩
                              · have d_674 := iEq c_673
                                exfalso; omega
                              · have d_675 := iNe c_673
                                refine ⟨fun c_676 => ?_, fun c_676 => ?_⟩
                                · have d_677 := iNe c_676
                                  exfalso; omega
                                · have d_678 := iEq c_676
                                  have g_679 : (0 : Int) ≤ (I0 o 46).toInt ∧ (I0 o 46).toInt ≤ 100 := hR.at0 ra 46 (by decide)
                                  have l_680 : (100 : Int32).toInt = 100 := rfl
                                  refine ⟨fun c_681 => ?_, fun c_681 => ?_⟩
                                  · have d_682 := iLe c_681
                                    exact (hp _ _ _ hR hf (by first | (intro h; exfalso; omega) | (intro h; unfold isT; omega)) (by intro h; omega) (by first | omega | (intro h; omega) | exact Or.inl rfl | exact Or.inr rfl))
                                  · have d_683 := iNle c_681
                                    have g_684 : (0 : Int) ≤ (I0 o 6).toInt ∧ (I0 o 6).toInt ≤ 1600 := hR.at0 ra 6 (by decide)
                                    refine y_Model_fails hok hw ra hz14 hz15 (by first | omega | (intro h; omega) | exact Or.inl rfl | exact Or.inr rfl) hR (fun I_688 L_689 hR_690 fr_691 kp_692 u_686 u_687 => ⟨I_688, L_689, rfl, rfl, ?_⟩)
                                    have hf_693 : Fm (fun c => c = o) I0 I_688 := hf.call fr_691 (fun c hc => by first | exact hc | (dsimp only at hc ⊢; omega) | omega)
                                    have t_694 : (I_688 o 3).toInt = (I0 o 3).toInt := by rw [kp_692 3 rfl]
                                    have g_695 : (0 : Int) ≤ (I_688 o 4).toInt ∧ (I_688 o 4).toInt ≤ 5 := hR_690.at0 ra 4 (by decide)
                                    have t_696 : (I_688 o 6).toInt = (I0 o 6).toInt := by rw [kp_692 6 rfl]
                                    have t_697 : (I_688 o 7).toInt = (I0 o 7).toInt := by rw [kp_692 7 rfl]
                                    have t_698 : (I_688 o 8).toInt = (I0 o 8).toInt := by rw [kp_692 8 rfl]
                                    have t_699 : (I_688 o 9).toInt = (I0 o 9).toInt := by rw [kp_692 9 rfl]
                                    have t_700 : (I_688 o 46).toInt = (I0 o 46).toInt := by rw [kp_692 46 rfl]
                                    exact (hp _ _ _ hR_690 hf_693 (by first | (intro h; exfalso; omega) | (intro h; unfold isT; omega)) (by intro h; omega) (by first | omega | (intro h; omega) | exact Or.inl rfl | exact Or.inr rfl))
                            · have d_701 := iEq c_671
                              exfalso; omega
                        · have d_702 := iEq c_664
                          exfalso; omega
                    · have d_703 := iNe c_588
                      have i_704 := u_586 (by omega)
                      unfold fModel_wordHere_170
                      have l_705 : (97 : Int32).toInt = 97 := rfl
                      have l_706 : (68 : Int32).toInt = 68 := rfl
                      refine ⟨fun c_707 => ?_, fun c_707 => ?_⟩
                      · have d_708 := iNe c_707
                        have l_709 : (115 : Int32).toInt = 115 := rfl
                        refine ⟨fun c_710 => ?_, fun c_710 => ?_⟩
                        · have d_711 := iEq c_710
                          exfalso; omega
                        · have d_712 := iNe c_710
                          have l_713 : (110 : Int32).toInt = 110 := rfl
                          refine ⟨fun c_714 => ?_, fun c_714 => ?_⟩
                          · have d_715 := iNe c_714
                            unfold fModel_wordHere_210
                            refine ⟨fun c_716 => ?_, fun c_716 => ?_⟩
                            · have d_717 := iEq c_716
                              exfalso; omega
                            · have d_718 := iNe c_716
                              refine ⟨fun c_719 => ?_, fun c_719 => ?_⟩
                              · have d_720 := iNe c_719
                                exfalso; omega
                              · have d_721 := iEq c_719
                                have g_722 : (0 : Int) ≤ (I0 o 46).toInt ∧ (I0 o 46).toInt ≤ 100 := hR.at0 ra 46 (by decide)
                                have l_723 : (100 : Int32).toInt = 100 := rfl
                                refine ⟨fun c_724 => ?_, fun c_724 => ?_⟩
                                · have d_725 := iLe c_724
                                  exact (hp _ _ _ hR hf (by first | (intro h; exfalso; omega) | (intro h; unfold isT; omega)) (by intro h; omega) (by first | omega | (intro h; omega) | exact Or.inl rfl | exact Or.inr rfl))
                                · have d_726 := iNle c_724
                                  have g_727 : (0 : Int) ≤ (I0 o 6).toInt ∧ (I0 o 6).toInt ≤ 1600 := hR.at0 ra 6 (by decide)
                                  refine y_Model_fails hok hw ra hz14 hz15 (by first | omega | (intro h; omega) | exact Or.inl rfl | exact Or.inr rfl) hR (fun I_731 L_732 hR_733 fr_734 kp_735 u_729 u_730 => ⟨I_731, L_732, rfl, rfl, ?_⟩)
                                  have hf_736 : Fm (fun c => c = o) I0 I_731 := hf.call fr_734 (fun c hc => by first | exact hc | (dsimp only at hc ⊢; omega) | omega)
                                  have t_737 : (I_731 o 3).toInt = (I0 o 3).toInt := by rw [kp_735 3 rfl]
                                  have g_738 : (0 : Int) ≤ (I_731 o 4).toInt ∧ (I_731 o 4).toInt ≤ 5 := hR_733.at0 ra 4 (by decide)
                                  have t_739 : (I_731 o 6).toInt = (I0 o 6).toInt := by rw [kp_735 6 rfl]
                                  have t_740 : (I_731 o 7).toInt = (I0 o 7).toInt := by rw [kp_735 7 rfl]
                                  have t_741 : (I_731 o 8).toInt = (I0 o 8).toInt := by rw [kp_735 8 rfl]
                                  have t_742 : (I_731 o 9).toInt = (I0 o 9).toInt := by rw [kp_735 9 rfl]
                                  have t_743 : (I_731 o 46).toInt = (I0 o 46).toInt := by rw [kp_735 46 rfl]
                                  exact (hp _ _ _ hR_733 hf_736 (by first | (intro h; exfalso; omega) | (intro h; unfold isT; omega)) (by intro h; omega) (by first | omega | (intro h; omega) | exact Or.inl rfl | exact Or.inr rfl))
                          · have d_744 := iEq c_714
                            exfalso; omega
                      · have d_745 := iEq c_707
                        exfalso; omega
                  · have d_746 := iNe c_581
                    have i_747 := u_579 (by omega)
                    unfold fModel_wordHere_170
                    have l_748 : (68 : Int32).toInt = 68 := rfl
                    refine ⟨fun c_749 => ?_, fun c_749 => ?_⟩
                    · have d_750 := iNe c_749
                      exfalso; omega
                    · have d_751 := iEq c_749
                      refine ⟨fun c_752 => ?_, fun c_752 => ?_⟩
                      · have d_753 := iNe c_752
                        unfold fModel_wordHere_185
                        unfold fModel_wordHere_210
                        refine ⟨fun c_754 => ?_, fun c_754 => ?_⟩
                        · have d_755 := iEq c_754
                          exfalso; omega
                        · have d_756 := iNe c_754
                          refine ⟨fun c_757 => ?_, fun c_757 => ?_⟩
                          · have d_758 := iNe c_757
                            exact (hp _ _ _ hR hf (by first | (intro h; exfalso; omega) | (intro h; unfold isT; omega)) (by intro h; omega) (by first | omega | (intro h; omega) | exact Or.inl rfl | exact Or.inr rfl))
                          · have d_759 := iEq c_757
                            exfalso; omega
                      · have d_760 := iEq c_752
                        exfalso; omega
                · have d_761 := iNe c_574
                  have i_762 := u_572 (by omega)
                  unfold fModel_wordHere_170
                  have l_763 : (110 : Int32).toInt = 110 := rfl
                  have l_764 : (68 : Int32).toInt = 68 := rfl
                  refine ⟨fun c_765 => ?_, fun c_765 => ?_⟩
                  · have d_766 := iNe c_765
                    have l_767 : (115 : Int32).toInt = 115 := rfl
                    refine ⟨fun c_768 => ?_, fun c_768 => ?_⟩
                    · have d_769 := iEq c_768
                      exfalso; omega
                    · have d_770 := iNe c_768
                      refine ⟨fun c_771 => ?_, fun c_771 => ?_⟩
                      · have d_772 := iNe c_771
                        exfalso; omega
                      · have d_773 := iEq c_771
                        unfold fModel_wordHere_205
                        unfold fModel_wordHere_210
                        refine ⟨fun c_774 => ?_, fun c_774 => ?_⟩
                        · have d_775 := iEq c_774
                          exfalso; omega
                        · have d_776 := iNe c_774
                          refine ⟨fun c_777 => ?_, fun c_777 => ?_⟩
                          · have d_778 := iNe c_777
                            exact (hp _ _ _ hR hf (by first | (intro h; exfalso; omega) | (intro h; unfold isT; omega)) (by intro h; omega) (by first | omega | (intro h; omega) | exact Or.inl rfl | exact Or.inr rfl))
                          · have d_779 := iEq c_777
                            exfalso; omega
                  · have d_780 := iEq c_765
                    exfalso; omega
              · have d_781 := iNe c_567
                have i_782 := u_565 (by omega)
                unfold fModel_wordHere_170
                have l_783 : (115 : Int32).toInt = 115 := rfl
                have l_784 : (68 : Int32).toInt = 68 := rfl
                refine ⟨fun c_785 => ?_, fun c_785 => ?_⟩
                · have d_786 := iNe c_785
                  refine ⟨fun c_787 => ?_, fun c_787 => ?_⟩
                  · have d_788 := iEq c_787
                    unfold fModel_wordHere_205
                    unfold fModel_wordHere_210
                    refine ⟨fun c_789 => ?_, fun c_789 => ?_⟩
                    · have d_790 := iEq c_789
                      exfalso; omega
                    · have d_791 := iNe c_789
                      refine ⟨fun c_792 => ?_, fun c_792 => ?_⟩
                      · have d_793 := iNe c_792
                        exact (hp _ _ _ hR hf (by first | (intro h; exfalso; omega) | (intro h; unfold isT; omega)) (by intro h; omega) (by first | omega | (intro h; omega) | exact Or.inl rfl | exact Or.inr rfl))
                      · have d_794 := iEq c_792
                        exfalso; omega
                  · have d_795 := iNe c_787
                    exfalso; omega
                · have d_796 := iEq c_785
                  exfalso; omega
            · have d_797 := iNlt c_561
              exfalso; omega
        · have d_798 := iNe c_31
          have i_799 := u_29 (by omega)
          have l_800 : (100 : Int32).toInt = 100 := rfl
          exact (hp _ _ _ hR hf (by first | (intro h; exfalso; omega) | (intro h; unfold isT; omega)) (by intro h; omega) (by first | omega | (intro h; omega) | exact Or.inl rfl | exact Or.inr rfl))
      · have d_801 := iNe c_24
        have i_802 := u_22 (by omega)
        have l_803 : (119 : Int32).toInt = 119 := rfl
        exact (hp _ _ _ hR hf (by first | (intro h; exfalso; omega) | (intro h; unfold isT; omega)) (by intro h; omega) (by first | omega | (intro h; omega) | exact Or.inl rfl | exact Or.inr rfl))
    · have d_804 := iNe c_18
      have i_805 := u_16 (by omega)
      have l_806 : (109 : Int32).toInt = 109 := rfl
      exact (hp _ _ _ hR hf (by first | (intro h; exfalso; omega) | (intro h; unfold isT; omega)) (by intro h; omega) (by first | omega | (intro h; omega) | exact Or.inl rfl | exact Or.inr rfl))
  · have d_807 := iNe c_12
    have i_808 := u_9 (by omega)
    have l_809 : (121 : Int32).toInt = 121 := rfl
    exact (hp _ _ _ hR hf (by first | (intro h; exfalso; omega) | (intro h; unfold isT; omega)) (by intro h; omega) (by first | omega | (intro h; omega) | exact Or.inl rfl | exact Or.inr rfl))
theorem y_Model_wordHere {D : va_G} {cA : FieldType → ClassId} {b : Nat} {E : State → Prop} {R : qRg} {o n : Nat} {sh : Nat → qC} {Rf : Nat → Nat → Option Nat} {I0 : Nat → Nat → Int32} {L0 : Nat → Nat → Int64} {post : Option Value → qS → Prop} (hok : q_ok (qGG D cA b E)) (hw : WfModel (qGG D cA b E) n sh Rf o) (ra : RAModel R o) (hz14 : R.2 14 = true) (hz15 : R.2 15 = true) (hR : RI R I0) (hp : ∀ (r : Int32) (I' : Nat → Nat → Int32) (L' : Nat → Nat → Int64), RI R I' → Fm (fun c => c = o) I0 I' → Kp wModel_wordHere I0 I' o → (Im (r.toInt ≠ 0) (isT r.toInt)) → (Im (r.toInt ≠ 0) ((I0 o 8).toInt = 3)) → ((I0 o 4).toInt ≤ (I' o 4).toInt) → post (some (.int r)) (n, sh, Rf, I', L')) : Ev (qGG D cA b E) mModel_wordHere 1 (0, 0) 0 (lv_args 0 [.ref o]) [] (n, sh, Rf, I0, L0) post :=
  yc_Model_wordHere (R := fzR R I0 o wModel_wordHere) hok hw (fzA ra hR _) (fzT hz14 rfl) (fzT hz15 rfl) fzZ (fzI hR) (fzI hR) (fun r I' L' h1 h2 u0 u1 u2 => hp r I' L' (fzB hR h1) h2 (fzP h1) u0 u1 u2)
set_option maxHeartbeats 4000000 in
set_option maxRecDepth 20000 in
theorem y_Model_rankHere {D : va_G} {cA : FieldType → ClassId} {b : Nat} {E : State → Prop} {R : qRg} {o n : Nat} {sh : Nat → qC} {Rf : Nat → Nat → Option Nat} {I0 : Nat → Nat → Int32} {L0 : Nat → Nat → Int64} {post : Option Value → qS → Prop} (hok : q_ok (qGG D cA b E)) (hw : WfModel (qGG D cA b E) n sh Rf o) (ra : RAModel R o) (hR : RI R I0) (hp : ∀ (r : Int32) , (((0 : Int) ≤ r.toInt ∧ r.toInt ≤ 6)) → (r.toInt ≠ 3) → (Im (r.toInt ≠ 0) ((I0 o 8).toInt ≠ 0)) → (Im (4 ≤ r.toInt) (Bn (sgF (I0 (o + 2)) (I0 o 3) (I0 o 6)).toInt)) → post (some (.int r)) (n, sh, Rf, I0, L0)) : Ev (qGG D cA b E) mModel_rankHere 2 (0, 0) 0 (lv_args 0 [.ref o]) [] (n, sh, Rf, I0, L0) post := by
  refine sModel_rankHere_0 o n sh Rf I0 L0 post  hok hw ?_
  unfold fModel_rankHere_0
  have l_1 : (6385252 : Int32).toInt = 6385252 := rfl
  refine y_Model_isWord hok hw ra hR (fun r_2 u_3 u_4 => ⟨r_2, I0, L0, rfl, rfl, ?_⟩)
  have b_5 : 0 ≤ r_2.toInt ∧ r_2.toInt ≤ 1 := u_3.rg
  have l_6 : (0 : Int32).toInt = 0 := rfl
  refine ⟨fun c_7 => ?_, fun c_7 => ?_⟩
  · have d_8 := iEq c_7
    have l_9 : (28530 : Int32).toInt = 28530 := rfl
    refine y_Model_isWord hok hw ra hR (fun r_10 u_11 u_12 => ⟨r_10, I0, L0, rfl, rfl, ?_⟩)
    have b_13 : 0 ≤ r_10.toInt ∧ r_10.toInt ≤ 1 := u_11.rg
    refine ⟨fun c_14 => ?_, fun c_14 => ?_⟩
    · have d_15 := iEq c_14
      have l_16 : (60 : Int32).toInt = 60 := rfl
      refine y_Model_is hok hw ra hR (fun r_17 u_18 u_19 u_20 => ⟨r_17, I0, L0, rfl, rfl, ?_⟩)
      have b_21 : 0 ≤ r_17.toInt ∧ r_17.toInt ≤ 1 := u_18.rg
      refine ⟨fun c_22 => ?_, fun c_22 => ?_⟩
      · have d_23 := iNe c_22
        have i_24 := u_19 (by omega)
        have i_25 := u_20 (by omega)
        have l_26 : (4 : Int32).toInt = 4 := rfl
        exact (hp _ (by first | omega | (intro h; omega) | exact Or.inl rfl | exact Or.inr rfl) (by first | omega | (intro h; omega) | exact Or.inl rfl | exact Or.inr rfl) (by intro h; omega) (by first | (intro h; exfalso; omega) | (intro h; have q := u_20 (by omega); rw [q]; unfold Bn isT; decide)))
      · have d_27 := iEq c_22
        have l_28 : (62 : Int32).toInt = 62 := rfl
        refine y_Model_is hok hw ra hR (fun r_29 u_30 u_31 u_32 => ⟨r_29, I0, L0, rfl, rfl, ?_⟩)
        have b_33 : 0 ≤ r_29.toInt ∧ r_29.toInt ≤ 1 := u_30.rg
        refine ⟨fun c_34 => ?_, fun c_34 => ?_⟩
        · have d_35 := iNe c_34
          have i_36 := u_31 (by omega)
          have i_37 := u_32 (by omega)
          have l_38 : (4 : Int32).toInt = 4 := rfl
          exact (hp _ (by first | omega | (intro h; omega) | exact Or.inl rfl | exact Or.inr rfl) (by first | omega | (intro h; omega) | exact Or.inl rfl | exact Or.inr rfl) (by intro h; omega) (by first | (intro h; exfalso; omega) | (intro h; have q := u_32 (by omega); rw [q]; unfold Bn isT; decide)))
        · have d_39 := iEq c_34
          have l_40 : (61 : Int32).toInt = 61 := rfl
          refine y_Model_is hok hw ra hR (fun r_41 u_42 u_43 u_44 => ⟨r_41, I0, L0, rfl, rfl, ?_⟩)
          have b_45 : 0 ≤ r_41.toInt ∧ r_41.toInt ≤ 1 := u_42.rg
          refine ⟨fun c_46 => ?_, fun c_46 => ?_⟩
          · have d_47 := iEq c_46
            have l_48 : (43 : Int32).toInt = 43 := rfl
            refine y_Model_is hok hw ra hR (fun r_49 u_50 u_51 u_52 => ⟨r_49, I0, L0, rfl, rfl, ?_⟩)
            have b_53 : 0 ≤ r_49.toInt ∧ r_49.toInt ≤ 1 := u_50.rg
            refine ⟨fun c_54 => ?_, fun c_54 => ?_⟩
            · have d_55 := iNe c_54
              have i_56 := u_51 (by omega)
              have i_57 := u_52 (by omega)
              have l_58 : (5 : Int32).toInt = 5 := rfl
              exact (hp _ (by first | omega | (intro h; omega) | exact Or.inl rfl | exact Or.inr rfl) (by first | omega | (intro h; omega) | exact Or.inl rfl | exact Or.inr rfl) (by intro h; omega) (by first | (intro h; exfalso; omega) | (intro h; have q := u_52 (by omega); rw [q]; unfold Bn isT; decide)))
            · have d_59 := iEq c_54
              have l_60 : (45 : Int32).toInt = 45 := rfl
              refine y_Model_is hok hw ra hR (fun r_61 u_62 u_63 u_64 => ⟨r_61, I0, L0, rfl, rfl, ?_⟩)
              have b_65 : 0 ≤ r_61.toInt ∧ r_61.toInt ≤ 1 := u_62.rg
              refine ⟨fun c_66 => ?_, fun c_66 => ?_⟩
              · have d_67 := iEq c_66
                have l_68 : (42 : Int32).toInt = 42 := rfl
                refine y_Model_is hok hw ra hR (fun r_69 u_70 u_71 u_72 => ⟨r_69, I0, L0, rfl, rfl, ?_⟩)
                have b_73 : 0 ≤ r_69.toInt ∧ r_69.toInt ≤ 1 := u_70.rg
                refine ⟨fun c_74 => ?_, fun c_74 => ?_⟩
                · have d_75 := iNe c_74
                  have i_76 := u_71 (by omega)
                  have i_77 := u_72 (by omega)
                  unfold fModel_rankHere_91
                  have l_78 : (6 : Int32).toInt = 6 := rfl
                  exact (hp _ (by first | omega | (intro h; omega) | exact Or.inl rfl | exact Or.inr rfl) (by first | omega | (intro h; omega) | exact Or.inl rfl | exact Or.inr rfl) (by intro h; omega) (by first | (intro h; exfalso; omega) | (intro h; have q := u_72 (by omega); rw [q]; unfold Bn isT; decide)))
                · have d_79 := iEq c_74
                  have l_80 : (47 : Int32).toInt = 47 := rfl
                  refine y_Model_is hok hw ra hR (fun r_81 u_82 u_83 u_84 => ⟨r_81, I0, L0, rfl, rfl, ?_⟩)
                  have b_85 : 0 ≤ r_81.toInt ∧ r_81.toInt ≤ 1 := u_82.rg
                  refine ⟨fun c_86 => ?_, fun c_86 => ?_⟩
                  · have d_87 := iEq c_86
                    exact (hp _ (by first | omega | (intro h; omega) | exact Or.inl rfl | exact Or.inr rfl) (by first | omega | (intro h; omega) | exact Or.inl rfl | exact Or.inr rfl) (by intro h; omega) (by first | (intro h; exfalso; omega) | (intro h; have q := u_84 (by omega); rw [q]; unfold Bn isT; decide)))
                  · have d_88 := iNe c_86
                    have i_89 := u_83 (by omega)
                    have i_90 := u_84 (by omega)
                    unfold fModel_rankHere_91
                    have l_91 : (6 : Int32).toInt = 6 := rfl
                    exact (hp _ (by first | omega | (intro h; omega) | exact Or.inl rfl | exact Or.inr rfl) (by first | omega | (intro h; omega) | exact Or.inl rfl | exact Or.inr rfl) (by intro h; omega) (by first | (intro h; exfalso; omega) | (intro h; have q := u_84 (by omega); rw [q]; unfold Bn isT; decide)))
              · have d_92 := iNe c_66
                have i_93 := u_63 (by omega)
                have i_94 := u_64 (by omega)
                have l_95 : (5 : Int32).toInt = 5 := rfl
                exact (hp _ (by first | omega | (intro h; omega) | exact Or.inl rfl | exact Or.inr rfl) (by first | omega | (intro h; omega) | exact Or.inl rfl | exact Or.inr rfl) (by intro h; omega) (by first | (intro h; exfalso; omega) | (intro h; have q := u_64 (by omega); rw [q]; unfold Bn isT; decide)))
          · have d_96 := iNe c_46
            have i_97 := u_43 (by omega)
            have i_98 := u_44 (by omega)
            have l_99 : (4 : Int32).toInt = 4 := rfl
            exact (hp _ (by first | omega | (intro h; omega) | exact Or.inl rfl | exact Or.inr rfl) (by first | omega | (intro h; omega) | exact Or.inl rfl | exact Or.inr rfl) (by intro h; omega) (by first | (intro h; exfalso; omega) | (intro h; have q := u_44 (by omega); rw [q]; unfold Bn isT; decide)))
    · have d_100 := iNe c_14
      have i_101 := u_12 (by omega)
      have l_102 : (1 : Int32).toInt = 1 := rfl
      exact (hp _ (by first | omega | (intro h; omega) | exact Or.inl rfl | exact Or.inr rfl) (by first | omega | (intro h; omega) | exact Or.inl rfl | exact Or.inr rfl) (by intro h; omega) (by first | (intro h; exfalso; omega) | (intro h; have q := False.elim (by omega); rw [q]; unfold Bn isT; decide)))
  · have d_103 := iNe c_7
    have i_104 := u_4 (by omega)
    have l_105 : (2 : Int32).toInt = 2 := rfl
    exact (hp _ (by first | omega | (intro h; omega) | exact Or.inl rfl | exact Or.inr rfl) (by first | omega | (intro h; omega) | exact Or.inl rfl | exact Or.inr rfl) (by intro h; omega) (by first | (intro h; exfalso; omega) | (intro h; have q := False.elim (by omega); rw [q]; unfold Bn isT; decide)))
set_option maxHeartbeats 4000000 in
set_option maxRecDepth 20000 in
theorem yModel_isCompared_7 {D : va_G} {cA : FieldType → ClassId} {b : Nat} {E : State → Prop} {R : qRg} {o n : Nat} {sh : Nat → qC} {Rf : Nat → Nat → Option Nat} {I0 : Nat → Nat → Int32} {L0 : Nat → Nat → Int64} {post : Option Value → qS → Prop} (hok : q_ok (qGG D cA b E)) (hw : WfModel (qGG D cA b E) n sh Rf o) (ra : RAModel R o) (hq0 : (I0 (o + 32) 0).toInt = 8) (hq1 : 1 ≤ (I0 o 48).toInt) (hR : RI R I0) (hp : ∀ (r : Int32) , (Bz r) → post (some (.int r)) (n, sh, Rf, I0, L0)) : ∀ (k : Nat) {x1 : Int32} , ((0 : Int) ≤ x1.toInt ∧ x1.toInt ≤ 79) → x1.toInt.toNat < k → Ev (qGG D cA b E) mModel_isCompared 0 (0, 0) 7 [(0, .ref o), (1, .int x1)] [] (n, sh, Rf, I0, L0) post := by
  intro k
  induction k with
  | zero =>
    intro x1 hi0 hm
    exact absurd hm (Nat.not_lt_zero _)
  | succ k ih =>
    intro x1 hi0 hm
    have g_1 : (0 : Int) ≤ (I0 o 48).toInt ∧ (I0 o 48).toInt ≤ 80 := hR.at0 ra 48 (by decide)
    refine sModel_isCompared_7 o n sh Rf I0 L0 post x1 hok hw ?_
    unfold fModel_isCompared_7
    refine ⟨tIn (by omega) (by omega), ?_⟩
    have g_2 : (0 : Int) ≤ (I0 (o + 32) (x1 : Int32).toNatClampNeg).toInt ∧ (I0 (o + 32) (x1 : Int32).toNatClampNeg).toInt ≤ 8 := hR.at ra 32 _ (by decide)
    have l_3 : (5 : Int32).toInt = 5 := rfl
    refine ⟨fun c_4 => ?_, fun c_4 => ?_⟩
    · have d_5 := iEq c_4
      unfold fModel_isCompared_28
      have nz : x1.toInt ≠ 0 := fun h => by have cl := tCl (x := x1) (by omega); have e0 : x1.toNatClampNeg = 0 := (by omega); have z := hq0; rw [← e0] at z; omega
      have a_7 : (x1 + Int32.ofInt (-1)).toInt = x1.toInt + (-1) := tIc (by omega) (by omega) (by decide) (by decide)
      generalize ez_6 : (x1 + Int32.ofInt (-1)) = z_6 at a_7 ⊢
      exact ih (by first | omega | (intro h; omega) | exact Or.inl rfl | exact Or.inr rfl) (by omega)
    · have d_8 := iNe c_4
      refine ⟨tIn (by omega) (by omega), ?_⟩
      have g_9 : (0 : Int) ≤ (I0 (o + 32) (x1 : Int32).toNatClampNeg).toInt ∧ (I0 (o + 32) (x1 : Int32).toNatClampNeg).toInt ≤ 8 := hR.at ra 32 _ (by decide)
      have l_10 : (6 : Int32).toInt = 6 := rfl
      refine ⟨fun c_11 => ?_, fun c_11 => ?_⟩
      · have d_12 := iNe c_11
        refine ⟨tIn (by omega) (by omega), ?_⟩
        have g_13 : (0 : Int) ≤ (I0 (o + 32) (x1 : Int32).toNatClampNeg).toInt ∧ (I0 (o + 32) (x1 : Int32).toNatClampNeg).toInt ≤ 8 := hR.at ra 32 _ (by decide)
        have l_14 : (4 : Int32).toInt = 4 := rfl
        refine ⟨fun c_15 => ?_, fun c_15 => ?_⟩
        · have d_16 := iNe c_15
          have l_17 : (0 : Int32).toInt = 0 := rfl
          exact (hp _ (Or.inl rfl))
        · have d_18 := iEq c_15
          have l_19 : (1 : Int32).toInt = 1 := rfl
          exact (hp _ (Or.inr rfl))
      · have d_20 := iEq c_11
        unfold fModel_isCompared_28
        have nz : x1.toInt ≠ 0 := fun h => by have cl := tCl (x := x1) (by omega); have e0 : x1.toNatClampNeg = 0 := (by omega); have z := hq0; rw [← e0] at z; omega
        have a_22 : (x1 + Int32.ofInt (-1)).toInt = x1.toInt + (-1) := tIc (by omega) (by omega) (by decide) (by decide)
        generalize ez_21 : (x1 + Int32.ofInt (-1)) = z_21 at a_22 ⊢
        exact ih (by first | omega | (intro h; omega) | exact Or.inl rfl | exact Or.inr rfl) (by omega)
set_option maxHeartbeats 4000000 in
set_option maxRecDepth 20000 in
theorem y_Model_isCompared {D : va_G} {cA : FieldType → ClassId} {b : Nat} {E : State → Prop} {R : qRg} {o n : Nat} {sh : Nat → qC} {Rf : Nat → Nat → Option Nat} {I0 : Nat → Nat → Int32} {L0 : Nat → Nat → Int64} {post : Option Value → qS → Prop} (hok : q_ok (qGG D cA b E)) (hw : WfModel (qGG D cA b E) n sh Rf o) (ra : RAModel R o) (hq0 : (I0 (o + 32) 0).toInt = 8) (hq1 : 1 ≤ (I0 o 48).toInt) (hR : RI R I0) (hp : ∀ (r : Int32) , (Bz r) → post (some (.int r)) (n, sh, Rf, I0, L0)) : Ev (qGG D cA b E) mModel_isCompared 0 (0, 0) 0 (lv_args 0 [.ref o]) [] (n, sh, Rf, I0, L0) post := by
  have g_23 : (0 : Int) ≤ (I0 o 48).toInt ∧ (I0 o 48).toInt ≤ 80 := hR.at0 ra 48 (by decide)
  refine sModel_isCompared_0 o n sh Rf I0 L0 post  hok hw ?_
  unfold fModel_isCompared_0
  have g_24 : (0 : Int) ≤ (I0 o 48).toInt ∧ (I0 o 48).toInt ≤ 80 := hR.at0 ra 48 (by decide)
  have l_25 : (1 : Int32).toInt = 1 := rfl
  have a_26 : ((I0 o 48) - 1).toInt = (I0 o 48).toInt - (1 : Int32).toInt := tSub (by omega) (by omega)
  exact yModel_isCompared_7 (I0 := I0) (L0 := L0) hok hw ra hq0 hq1 hR hp  _ (by first | omega | (intro h; omega) | exact Or.inl rfl | exact Or.inr rfl) (Nat.lt_succ_self _)
