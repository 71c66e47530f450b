/-! Safety of the reference, must and point: by program (spec.py). -/
def wModel_wrong : Nat → Bool := fun j => Nat.beq j 14 || Nat.beq j 15 || false
set_option maxHeartbeats 4000000 in
set_option maxRecDepth 20000 in
theorem yc_Model_wrong {D : va_G} {cA : FieldType → ClassId} {b : Nat} {E : State → Prop} {R : qRg} {o n : Nat} {sh : Nat → qC} {Rf : Nat → Nat → Option Nat} {I0 : Nat → Nat → Int32} {L0 : Nat → Nat → Int64} {post : Option Value → qS → Prop} (hok : q_ok (qGG D cA b E)) (hw : WfModel (qGG D cA b E) n sh Rf o) (ra : RAModel R o) (hz14 : R.2 14 = true) (hz15 : R.2 15 = true) (hZ : Fz R I0 o wModel_wrong) (hR0 : RI R I0) (hR : RI R I0) (hp : ∀ (I' : Nat → Nat → Int32) (L' : Nat → Nat → Int64), RI R I' → Fm (fun c => c = o) I0 I' → (1 ≤ (I' o 4).toInt) → ((I0 o 4).toInt ≤ (I' o 4).toInt) → post none (n, sh, Rf, I', L')) : Ev (qGG D cA b E) mModel_wrong 1 (0, 0) 0 (lv_args 0 [.ref o]) [] (n, sh, Rf, I0, L0) post := by
  have hf : Fm (fun c => c = o) I0 I0 := Fm.rf
  have g_1 : (0 : Int) ≤ (I0 o 3).toInt ∧ (I0 o 3).toInt ≤ 1600 := hR.at0 ra 3 (by decide)
  have g_2 : (0 : Int) ≤ (I0 o 4).toInt ∧ (I0 o 4).toInt ≤ 5 := hR.at0 ra 4 (by decide)
  have g_3 : (0 : Int) ≤ (I0 o 6).toInt ∧ (I0 o 6).toInt ≤ 1600 := hR.at0 ra 6 (by decide)
  have g_4 : (0 : Int) ≤ (I0 o 7).toInt ∧ (I0 o 7).toInt ≤ 1601 := hR.at0 ra 7 (by decide)
  have g_5 : (0 : Int) ≤ (I0 o 8).toInt ∧ (I0 o 8).toInt ≤ 6 := hR.at0 ra 8 (by decide)
  refine sModel_wrong_0 o n sh Rf I0 L0 post  hok hw ?_
  unfold fModel_wrong_0
  have g_6 : (0 : Int) ≤ (I0 o 8).toInt ∧ (I0 o 8).toInt ≤ 6 := hR.at0 ra 8 (by decide)
  have l_7 : (1 : Int32).toInt = 1 := rfl
  refine ⟨fun c_8 => ?_, fun c_8 => ?_⟩
  · have d_9 := iNe c_8
    have g_10 : (0 : Int) ≤ (I0 o 6).toInt ∧ (I0 o 6).toInt ≤ 1600 := hR.at0 ra 6 (by decide)
    have l_11 : (2 : Int32).toInt = 2 := rfl
    refine y_Model_fails hok hw ra hz14 hz15 (by first | omega | (intro h; omega) | exact Or.inl rfl | exact Or.inr rfl) hR (fun I_15 L_16 hR_17 fr_18 kp_19 u_13 u_14 => ⟨I_15, L_16, rfl, rfl, ?_⟩)
    have hf_20 : Fm (fun c => c = o) I0 I_15 := hf.call fr_18 (fun c hc => by first | exact hc | (dsimp only at hc ⊢; omega) | omega)
    have t_21 : (I_15 o 3).toInt = (I0 o 3).toInt := by rw [kp_19 3 rfl]
    have g_22 : (0 : Int) ≤ (I_15 o 4).toInt ∧ (I_15 o 4).toInt ≤ 5 := hR_17.at0 ra 4 (by decide)
    have t_23 : (I_15 o 6).toInt = (I0 o 6).toInt := by rw [kp_19 6 rfl]
    have t_24 : (I_15 o 7).toInt = (I0 o 7).toInt := by rw [kp_19 7 rfl]
    have t_25 : (I_15 o 8).toInt = (I0 o 8).toInt := by rw [kp_19 8 rfl]
    have t_26 : (I_15 o 9).toInt = (I0 o 9).toInt := by rw [kp_19 9 rfl]
    exact (hp _ _ hR_17 hf_20 (by first | omega | (intro h; omega) | exact Or.inl rfl | exact Or.inr rfl) (by first | omega | (intro h; omega) | exact Or.inl rfl | exact Or.inr rfl))
  · have d_27 := iEq c_8
    have g_28 : (0 : Int) ≤ (I0 o 6).toInt ∧ (I0 o 6).toInt ≤ 1600 := hR.at0 ra 6 (by decide)
    refine y_Model_fails hok hw ra hz14 hz15 (by first | omega | (intro h; omega) | exact Or.inl rfl | exact Or.inr rfl) hR (fun I_32 L_33 hR_34 fr_35 kp_36 u_30 u_31 => ⟨I_32, L_33, rfl, rfl, ?_⟩)
    have hf_37 : Fm (fun c => c = o) I0 I_32 := hf.call fr_35 (fun c hc => by first | exact hc | (dsimp only at hc ⊢; omega) | omega)
    have t_38 : (I_32 o 3).toInt = (I0 o 3).toInt := by rw [kp_36 3 rfl]
    have g_39 : (0 : Int) ≤ (I_32 o 4).toInt ∧ (I_32 o 4).toInt ≤ 5 := hR_34.at0 ra 4 (by decide)
    have t_40 : (I_32 o 6).toInt = (I0 o 6).toInt := by rw [kp_36 6 rfl]
    have t_41 : (I_32 o 7).toInt = (I0 o 7).toInt := by rw [kp_36 7 rfl]
    have t_42 : (I_32 o 8).toInt = (I0 o 8).toInt := by rw [kp_36 8 rfl]
    have t_43 : (I_32 o 9).toInt = (I0 o 9).toInt := by rw [kp_36 9 rfl]
    exact (hp _ _ hR_34 hf_37 (by first | omega | (intro h; omega) | exact Or.inl rfl | exact Or.inr rfl) (by first | omega | (intro h; omega) | exact Or.inl rfl | exact Or.inr rfl))
theorem y_Model_wrong {D : va_G} {cA : FieldType → ClassId} {b : Nat} {E : State → Prop} {R : qRg} {o n : Nat} {sh : Nat → qC} {Rf : Nat → Nat → Option Nat} {I0 : Nat → Nat → Int32} {L0 : Nat → Nat → Int64} {post : Option Value → qS → Prop} (hok : q_ok (qGG D cA b E)) (hw : WfModel (qGG D cA b E) n sh Rf o) (ra : RAModel R o) (hz14 : R.2 14 = true) (hz15 : R.2 15 = true) (hR : RI R I0) (hp : ∀ (I' : Nat → Nat → Int32) (L' : Nat → Nat → Int64), RI R I' → Fm (fun c => c = o) I0 I' → Kp wModel_wrong I0 I' o → (1 ≤ (I' o 4).toInt) → ((I0 o 4).toInt ≤ (I' o 4).toInt) → post none (n, sh, Rf, I', L')) : Ev (qGG D cA b E) mModel_wrong 1 (0, 0) 0 (lv_args 0 [.ref o]) [] (n, sh, Rf, I0, L0) post :=
  yc_Model_wrong (R := fzR R I0 o wModel_wrong) hok hw (fzA ra hR _) (fzT hz14 rfl) (fzT hz15 rfl) fzZ (fzI hR) (fzI hR) (fun I' L' h1 h2 u0 u1 => hp I' L' (fzB hR h1) h2 (fzP h1) u0 u1)
def wModel_must : Nat → Bool := fun j => Nat.beq j 14 || Nat.beq j 15 || Nat.beq j 16 || Nat.beq j 17 || Nat.beq j 18 || Nat.beq j 19 || false
set_option maxHeartbeats 4000000 in
set_option maxRecDepth 20000 in
theorem yc_Model_must {D : va_G} {cA : FieldType → ClassId} {b : Nat} {E : State → Prop} {R : qRg} {o n : Nat} {sh : Nat → qC} {Rf : Nat → Nat → Option Nat} {I0 : Nat → Nat → Int32} {L0 : Nat → Nat → Int64} {post : Option Value → qS → Prop} {p1 : Int32} (hok : q_ok (qGG D cA b E)) (hw : WfModel (qGG D cA b E) n sh Rf o) (ra : RAModel R o) (hz14 : R.2 14 = true) (hz15 : R.2 15 = true) (hz16 : R.2 16 = true) (hz17 : R.2 17 = true) (hz18 : R.2 18 = true) (hz19 : R.2 19 = true) (hZ : Fz R I0 o wModel_must) (hR0 : RI R I0) (hq0 : (I0 o 7).toInt ≤ (I0 o 3).toInt) (hq1 : MPo I0 o) (hq2 : MTk I0 o) (hR : RI R I0) (hp : ∀ (I' : Nat → Nat → Int32) (L' : Nat → Nat → Int64), RI R I' → Fm (fun c => c = o) I0 I' → ((I' o 7).toInt ≤ (I' o 3).toInt) → ((I0 o 7).toInt ≤ (I' o 7).toInt) → ((I0 o 4).toInt ≤ (I' o 4).toInt) → (7 * (I0 o 7).toInt - (I0 o 8).toInt + (I0 o 4).toInt ≤ 7 * (I' o 7).toInt - (I' o 8).toInt + (I' o 4).toInt) → (Im (p1.toInt = 0) ((I' o 4).toInt ≠ 0)) → ((I0 o 6).toInt ≤ (I' o 6).toInt) → (Im ((I0 o 4).toInt = 0 ∧ (I0 o 8).toInt ≠ 0) (7 * (I0 o 7).toInt - (I0 o 8).toInt + (I0 o 4).toInt < 7 * (I' o 7).toInt - (I' o 8).toInt + (I' o 4).toInt)) → (MPo I' o) → (MTk I' o) → post none (n, sh, Rf, I', L')) : Ev (qGG D cA b E) mModel_must 3 (0, 0) 0 (lv_args 0 [.ref o, .int p1]) [] (n, sh, Rf, I0, L0) post := by
  have hf : Fm (fun c => c = o) I0 I0 := Fm.rf
  have g_1 : (0 : Int) ≤ (I0 o 3).toInt ∧ (I0 o 3).toInt ≤ 1600 := hR.at0 ra 3 (by decide)
  have g_2 : (0 : Int) ≤ (I0 o 4).toInt ∧ (I0 o 4).toInt ≤ 5 := hR.at0 ra 4 (by decide)
  have g_3 : (0 : Int) ≤ (I0 o 6).toInt ∧ (I0 o 6).toInt ≤ 1600 := hR.at0 ra 6 (by decide)
  have g_4 : (0 : Int) ≤ (I0 o 7).toInt ∧ (I0 o 7).toInt ≤ 1601 := hR.at0 ra 7 (by decide)
  have g_5 : (0 : Int) ≤ (I0 o 8).toInt ∧ (I0 o 8).toInt ≤ 6 := hR.at0 ra 8 (by decide)
  refine sModel_must_0 o n sh Rf I0 L0 post p1 hok hw ?_
  unfold fModel_must_0
  have mt0 := hq2.1
  refine y_Model_isGood hok hw ra hR (fun r_6 u_7 u_8 u_9 => ⟨r_6, I0, L0, rfl, rfl, ?_⟩)
  have b_10 : 0 ≤ r_6.toInt ∧ r_6.toInt ≤ 1 := u_7.rg
  have l_11 : (0 : Int32).toInt = 0 := rfl
  refine ⟨fun c_12 => ?_, fun c_12 => ?_⟩
  · have d_13 := iNe c_12
    have i_14 := u_8 (by omega)
    have gd := u_8 (by omega)
    refine ⟨fun c_15 => ?_, fun c_15 => ?_⟩
    · have d_16 := iEq c_15
      refine y_Model_wrong hok hw ra hz14 hz15 hR (fun I_20 L_21 hR_22 fr_23 kp_24 u_18 u_19 => ⟨I_20, L_21, rfl, rfl, ?_⟩)
      have hf_25 : Fm (fun c => c = o) I0 I_20 := hf.call fr_23 (fun c hc => by first | exact hc | (dsimp only at hc ⊢; omega) | omega)
      have t_26 : (I_20 o 3).toInt = (I0 o 3).toInt := by rw [kp_24 3 rfl]
      have g_27 : (0 : Int) ≤ (I_20 o 4).toInt ∧ (I_20 o 4).toInt ≤ 5 := hR_22.at0 ra 4 (by decide)
      have t_28 : (I_20 o 6).toInt = (I0 o 6).toInt := by rw [kp_24 6 rfl]
      have t_29 : (I_20 o 7).toInt = (I0 o 7).toInt := by rw [kp_24 7 rfl]
      have t_30 : (I_20 o 8).toInt = (I0 o 8).toInt := by rw [kp_24 8 rfl]
      have t_31 : (I_20 o 9).toInt = (I0 o 9).toInt := by rw [kp_24 9 rfl]
      have k_32 : MPo I_20 o := hq1.fr (kp_24 8 rfl) (kp_24 9 rfl)
      have k_33 : MTk I_20 o := hq2.fr (kp_24 6 rfl) (kp_24 7 rfl) (kp_24 8 rfl)
      exact (hp _ _ hR_22 hf_25 (by first | omega | (intro h; omega) | exact Or.inl rfl | exact Or.inr rfl) (by first | omega | (intro h; omega) | exact Or.inl rfl | exact Or.inr rfl) (by first | omega | (intro h; omega) | exact Or.inl rfl | exact Or.inr rfl) (by first | omega | (intro h; omega) | exact Or.inl rfl | exact Or.inr rfl) (by intro _; omega) (by first | omega | (intro h; omega) | exact Or.inl rfl | exact Or.inr rfl) (by first | (intro h; omega) | (intro h; have ms := False.elim (by omega); omega)) k_32 k_33)
    · have d_34 := iNe c_15
      refine y_Model_next hok hw ra hz16 hz17 hz18 hz19 (by first | omega | (intro h; omega) | exact Or.inl rfl | exact Or.inr rfl) hR (fun I_44 L_45 hR_46 fr_47 kp_48 u_36 u_37 u_38 u_39 u_40 u_41 u_42 u_43 => ⟨I_44, L_45, rfl, rfl, ?_⟩)
      have hf_49 : Fm (fun c => c = o) I0 I_44 := hf.call fr_47 (fun c hc => by first | exact hc | (dsimp only at hc ⊢; omega) | omega)
      have t_50 : (I_44 o 3).toInt = (I0 o 3).toInt := by rw [kp_48 3 rfl]
      have t_51 : (I_44 o 4).toInt = (I0 o 4).toInt := by rw [kp_48 4 rfl]
      have g_52 : (0 : Int) ≤ (I_44 o 6).toInt ∧ (I_44 o 6).toInt ≤ 1600 := hR_46.at0 ra 6 (by decide)
      have g_53 : (0 : Int) ≤ (I_44 o 7).toInt ∧ (I_44 o 7).toInt ≤ 1601 := hR_46.at0 ra 7 (by decide)
      have g_54 : (0 : Int) ≤ (I_44 o 8).toInt ∧ (I_44 o 8).toInt ≤ 6 := hR_46.at0 ra 8 (by decide)
      exact (hp _ _ hR_46 hf_49 (by first | omega | (intro h; omega) | exact Or.inl rfl | exact Or.inr rfl) (by first | omega | (intro h; omega) | exact Or.inl rfl | exact Or.inr rfl) (by first | omega | (intro h; omega) | exact Or.inl rfl | exact Or.inr rfl) (by first | omega | (intro h; omega) | exact Or.inl rfl | exact Or.inr rfl) (by intro _; omega) (by first | omega | (intro h; omega) | exact Or.inl rfl | exact Or.inr rfl) (by first | (intro h; omega) | (intro h; have ms := u_39 (by omega); omega)) u_42 u_43)
  · have d_55 := iEq c_12
    have i_56 := u_9 (by omega)
    have gb := u_9 (by omega)
    exact (hp _ _ hR hf (by first | omega | (intro h; omega) | exact Or.inl rfl | exact Or.inr rfl) (by first | omega | (intro h; omega) | exact Or.inl rfl | exact Or.inr rfl) (by first | omega | (intro h; omega) | exact Or.inl rfl | exact Or.inr rfl) (by first | omega | (intro h; omega) | exact Or.inl rfl | exact Or.inr rfl) (by intro _; omega) (by first | omega | (intro h; omega) | exact Or.inl rfl | exact Or.inr rfl) (by first | (intro h; omega) | (intro h; have ms := False.elim (by omega); omega)) hq1 hq2)
theorem y_Model_must {D : va_G} {cA : FieldType → ClassId} {b : Nat} {E : State → Prop} {R : qRg} {o n : Nat} {sh : Nat → qC} {Rf : Nat → Nat → Option Nat} {I0 : Nat → Nat → Int32} {L0 : Nat → Nat → Int64} {post : Option Value → qS → Prop} {p1 : Int32} (hok : q_ok (qGG D cA b E)) (hw : WfModel (qGG D cA b E) n sh Rf o) (ra : RAModel R o) (hz14 : R.2 14 = true) (hz15 : R.2 15 = true) (hz16 : R.2 16 = true) (hz17 : R.2 17 = true) (hz18 : R.2 18 = true) (hz19 : R.2 19 = true) (hq0 : (I0 o 7).toInt ≤ (I0 o 3).toInt) (hq1 : MPo I0 o) (hq2 : MTk I0 o) (hR : RI R I0) (hp : ∀ (I' : Nat → Nat → Int32) (L' : Nat → Nat → Int64), RI R I' → Fm (fun c => c = o) I0 I' → Kp wModel_must I0 I' o → ((I' o 7).toInt ≤ (I' o 3).toInt) → ((I0 o 7).toInt ≤ (I' o 7).toInt) → ((I0 o 4).toInt ≤ (I' o 4).toInt) → (7 * (I0 o 7).toInt - (I0 o 8).toInt + (I0 o 4).toInt ≤ 7 * (I' o 7).toInt - (I' o 8).toInt + (I' o 4).toInt) → (Im (p1.toInt = 0) ((I' o 4).toInt ≠ 0)) → ((I0 o 6).toInt ≤ (I' o 6).toInt) → (Im ((I0 o 4).toInt = 0 ∧ (I0 o 8).toInt ≠ 0) (7 * (I0 o 7).toInt - (I0 o 8).toInt + (I0 o 4).toInt < 7 * (I' o 7).toInt - (I' o 8).toInt + (I' o 4).toInt)) → (MPo I' o) → (MTk I' o) → post none (n, sh, Rf, I', L')) : Ev (qGG D cA b E) mModel_must 3 (0, 0) 0 (lv_args 0 [.ref o, .int p1]) [] (n, sh, Rf, I0, L0) post :=
  yc_Model_must (R := fzR R I0 o wModel_must) hok hw (fzA ra hR _) (fzT hz14 rfl) (fzT hz15 rfl) (fzT hz16 rfl) (fzT hz17 rfl) (fzT hz18 rfl) (fzT hz19 rfl) fzZ (fzI hR) hq0 hq1 hq2 (fzI hR) (fun I' L' h1 h2 u0 u1 u2 u3 u4 u5 u6 u7 u8 => hp I' L' (fzB hR h1) h2 (fzP h1) u0 u1 u2 u3 u4 u5 u6 u7 u8)
def wModel_point : Nat → Bool := fun j => Nat.beq j 14 || Nat.beq j 15 || Nat.beq j 16 || Nat.beq j 17 || Nat.beq j 18 || Nat.beq j 19 || false
set_option maxHeartbeats 4000000 in
set_option maxRecDepth 20000 in
theorem yc_Model_point {D : va_G} {cA : FieldType → ClassId} {b : Nat} {E : State → Prop} {R : qRg} {o n : Nat} {sh : Nat → qC} {Rf : Nat → Nat → Option Nat} {I0 : Nat → Nat → Int32} {L0 : Nat → Nat → Int64} {post : Option Value → qS → Prop} (hok : q_ok (qGG D cA b E)) (hw : WfModel (qGG D cA b E) n sh Rf o) (ra : RAModel R o) (hz14 : R.2 14 = true) (hz15 : R.2 15 = true) (hz16 : R.2 16 = true) (hz17 : R.2 17 = true) (hz18 : R.2 18 = true) (hz19 : R.2 19 = true) (hZ : Fz R I0 o wModel_point) (hR0 : RI R I0) (hq0 : (I0 o 7).toInt ≤ (I0 o 3).toInt) (hq1 : MPo I0 o) (hq2 : MTk I0 o) (hR : RI R I0) (hp : ∀ (r : Int32) (I' : Nat → Nat → Int32) (L' : Nat → Nat → Int64), RI R I' → Fm (fun c => c = o) I0 I' → (((0 : Int) ≤ r.toInt ∧ r.toInt ≤ 15)) → ((I' o 7).toInt ≤ (I' o 3).toInt) → ((I0 o 7).toInt ≤ (I' o 7).toInt) → ((I0 o 4).toInt ≤ (I' o 4).toInt) → (7 * (I0 o 7).toInt - (I0 o 8).toInt + (I0 o 4).toInt ≤ 7 * (I' o 7).toInt - (I' o 8).toInt + (I' o 4).toInt) → (MPo I' o) → (MTk I' o) → post (some (.int r)) (n, sh, Rf, I', L')) : Ev (qGG D cA b E) mModel_point 4 (0, 0) 0 (lv_args 0 [.ref o]) [] (n, sh, Rf, I0, L0) post := by
  have hf : Fm (fun c => c = o) I0 I0 := Fm.rf
  have g_1 : (0 : Int) ≤ (I0 o 3).toInt ∧ (I0 o 3).toInt ≤ 1600 := hR.at0 ra 3 (by decide)
  have g_2 : (0 : Int) ≤ (I0 o 4).toInt ∧ (I0 o 4).toInt ≤ 5 := hR.at0 ra 4 (by decide)
  have g_3 : (0 : Int) ≤ (I0 o 6).toInt ∧ (I0 o 6).toInt ≤ 1600 := hR.at0 ra 6 (by decide)
  have g_4 : (0 : Int) ≤ (I0 o 7).toInt ∧ (I0 o 7).toInt ≤ 1601 := hR.at0 ra 7 (by decide)
  have g_5 : (0 : Int) ≤ (I0 o 8).toInt ∧ (I0 o 8).toInt ≤ 6 := hR.at0 ra 8 (by decide)
  refine sModel_point_0 o n sh Rf I0 L0 post  hok hw ?_
  unfold fModel_point_0
  have g_6 : (0 : Int) ≤ (I0 o 8).toInt ∧ (I0 o 8).toInt ≤ 6 := hR.at0 ra 8 (by decide)
  have l_7 : (5 : Int32).toInt = 5 := rfl
  refine ⟨fun c_8 => ?_, fun c_8 => ?_⟩
  · have d_9 := iNe c_8
    unfold fModel_point_19
    have l_10 : (0 : Int32).toInt = 0 := rfl
    refine y_Model_must hok hw ra hz14 hz15 hz16 hz17 hz18 hz19 (by first | omega | (intro h; omega) | exact Or.inl rfl | exact Or.inr rfl) hq1 hq2 hR (fun I_21 L_22 hR_23 fr_24 kp_25 u_12 u_13 u_14 u_15 u_16 u_17 u_18 u_19 u_20 => ⟨I_21, L_22, rfl, rfl, ?_⟩)
    have hf_26 : Fm (fun c => c = o) I0 I_21 := hf.call fr_24 (fun c hc => by first | exact hc | (dsimp only at hc ⊢; omega) | omega)
    have t_27 : (I_21 o 3).toInt = (I0 o 3).toInt := by rw [kp_25 3 rfl]
    have g_28 : (0 : Int) ≤ (I_21 o 4).toInt ∧ (I_21 o 4).toInt ≤ 5 := hR_23.at0 ra 4 (by decide)
    have g_29 : (0 : Int) ≤ (I_21 o 6).toInt ∧ (I_21 o 6).toInt ≤ 1600 := hR_23.at0 ra 6 (by decide)
    have g_30 : (0 : Int) ≤ (I_21 o 7).toInt ∧ (I_21 o 7).toInt ≤ 1601 := hR_23.at0 ra 7 (by decide)
    have g_31 : (0 : Int) ≤ (I_21 o 8).toInt ∧ (I_21 o 8).toInt ≤ 6 := hR_23.at0 ra 8 (by decide)
    refine y_Model_isGood hok hw ra hR_23 (fun r_32 u_33 u_34 u_35 => ⟨r_32, I_21, L_22, rfl, rfl, ?_⟩)
    have b_36 : 0 ≤ r_32.toInt ∧ r_32.toInt ≤ 1 := u_33.rg
    refine ⟨fun c_37 => ?_, fun c_37 => ?_⟩
    · have d_38 := iEq c_37
      have i_39 := u_35 (by omega)
      exact (hp _ _ _ hR_23 hf_26 (by first | omega | (intro h; omega) | exact Or.inl rfl | exact Or.inr rfl) (by first | omega | (intro h; omega) | exact Or.inl rfl | exact Or.inr rfl) (by first | omega | (intro h; omega) | exact Or.inl rfl | exact Or.inr rfl) (by first | omega | (intro h; omega) | exact Or.inl rfl | exact Or.inr rfl) (by first | omega | (intro h; omega) | exact Or.inl rfl | exact Or.inr rfl) u_19 u_20)
    · have d_40 := iNe c_37
      have i_41 := u_34 (by omega)
      have gd := u_34 (by omega)
      have mq : 0 ≤ (I0 o 9).toInt ∧ (I0 o 9).toInt ≤ 15 := by first | exact hq1 (by omega) | exact absurd (u_16 (by omega)) (by omega)
      exact (hp _ _ _ hR_23 hf_26 (by first | omega | (intro h; omega) | exact Or.inl rfl | exact Or.inr rfl) (by first | omega | (intro h; omega) | exact Or.inl rfl | exact Or.inr rfl) (by first | omega | (intro h; omega) | exact Or.inl rfl | exact Or.inr rfl) (by first | omega | (intro h; omega) | exact Or.inl rfl | exact Or.inr rfl) (by first | omega | (intro h; omega) | exact Or.inl rfl | exact Or.inr rfl) u_19 u_20)
  · have d_42 := iEq c_8
    unfold fModel_point_19
    have l_43 : (1 : Int32).toInt = 1 := rfl
    refine y_Model_must hok hw ra hz14 hz15 hz16 hz17 hz18 hz19 (by first | omega | (intro h; omega) | exact Or.inl rfl | exact Or.inr rfl) hq1 hq2 hR (fun I_54 L_55 hR_56 fr_57 kp_58 u_45 u_46 u_47 u_48 u_49 u_50 u_51 u_52 u_53 => ⟨I_54, L_55, rfl, rfl, ?_⟩)
    have hf_59 : Fm (fun c => c = o) I0 I_54 := hf.call fr_57 (fun c hc => by first | exact hc | (dsimp only at hc ⊢; omega) | omega)
    have t_60 : (I_54 o 3).toInt = (I0 o 3).toInt := by rw [kp_58 3 rfl]
    have g_61 : (0 : Int) ≤ (I_54 o 4).toInt ∧ (I_54 o 4).toInt ≤ 5 := hR_56.at0 ra 4 (by decide)
    have g_62 : (0 : Int) ≤ (I_54 o 6).toInt ∧ (I_54 o 6).toInt ≤ 1600 := hR_56.at0 ra 6 (by decide)
    have g_63 : (0 : Int) ≤ (I_54 o 7).toInt ∧ (I_54 o 7).toInt ≤ 1601 := hR_56.at0 ra 7 (by decide)
    have g_64 : (0 : Int) ≤ (I_54 o 8).toInt ∧ (I_54 o 8).toInt ≤ 6 := hR_56.at0 ra 8 (by decide)
    refine y_Model_isGood hok hw ra hR_56 (fun r_65 u_66 u_67 u_68 => ⟨r_65, I_54, L_55, rfl, rfl, ?_⟩)
    have b_69 : 0 ≤ r_65.toInt ∧ r_65.toInt ≤ 1 := u_66.rg
    have l_70 : (0 : Int32).toInt = 0 := rfl
    refine ⟨fun c_71 => ?_, fun c_71 => ?_⟩
    · have d_72 := iEq c_71
      have i_73 := u_68 (by omega)
      exact (hp _ _ _ hR_56 hf_59 (by first | omega | (intro h; omega) | exact Or.inl rfl | exact Or.inr rfl) (by first | omega | (intro h; omega) | exact Or.inl rfl | exact Or.inr rfl) (by first | omega | (intro h; omega) | exact Or.inl rfl | exact Or.inr rfl) (by first | omega | (intro h; omega) | exact Or.inl rfl | exact Or.inr rfl) (by first | omega | (intro h; omega) | exact Or.inl rfl | exact Or.inr rfl) u_52 u_53)
    · have d_74 := iNe c_71
      have i_75 := u_67 (by omega)
      have gd := u_67 (by omega)
      have mq : 0 ≤ (I0 o 9).toInt ∧ (I0 o 9).toInt ≤ 15 := by first | exact hq1 (by omega) | exact absurd (u_49 (by omega)) (by omega)
      exact (hp _ _ _ hR_56 hf_59 (by first | omega | (intro h; omega) | exact Or.inl rfl | exact Or.inr rfl) (by first | omega | (intro h; omega) | exact Or.inl rfl | exact Or.inr rfl) (by first | omega | (intro h; omega) | exact Or.inl rfl | exact Or.inr rfl) (by first | omega | (intro h; omega) | exact Or.inl rfl | exact Or.inr rfl) (by first | omega | (intro h; omega) | exact Or.inl rfl | exact Or.inr rfl) u_52 u_53)
theorem y_Model_point {D : va_G} {cA : FieldType → ClassId} {b : Nat} {E : State → Prop} {R : qRg} {o n : Nat} {sh : Nat → qC} {Rf : Nat → Nat → Option Nat} {I0 : Nat → Nat → Int32} {L0 : Nat → Nat → Int64} {post : Option Value → qS → Prop} (hok : q_ok (qGG D cA b E)) (hw : WfModel (qGG D cA b E) n sh Rf o) (ra : RAModel R o) (hz14 : R.2 14 = true) (hz15 : R.2 15 = true) (hz16 : R.2 16 = true) (hz17 : R.2 17 = true) (hz18 : R.2 18 = true) (hz19 : R.2 19 = true) (hq0 : (I0 o 7).toInt ≤ (I0 o 3).toInt) (hq1 : MPo I0 o) (hq2 : MTk I0 o) (hR : RI R I0) (hp : ∀ (r : Int32) (I' : Nat → Nat → Int32) (L' : Nat → Nat → Int64), RI R I' → Fm (fun c => c = o) I0 I' → Kp wModel_point I0 I' o → (((0 : Int) ≤ r.toInt ∧ r.toInt ≤ 15)) → ((I' o 7).toInt ≤ (I' o 3).toInt) → ((I0 o 7).toInt ≤ (I' o 7).toInt) → ((I0 o 4).toInt ≤ (I' o 4).toInt) → (7 * (I0 o 7).toInt - (I0 o 8).toInt + (I0 o 4).toInt ≤ 7 * (I' o 7).toInt - (I' o 8).toInt + (I' o 4).toInt) → (MPo I' o) → (MTk I' o) → post (some (.int r)) (n, sh, Rf, I', L')) : Ev (qGG D cA b E) mModel_point 4 (0, 0) 0 (lv_args 0 [.ref o]) [] (n, sh, Rf, I0, L0) post :=
  yc_Model_point (R := fzR R I0 o wModel_point) hok hw (fzA ra hR _) (fzT hz14 rfl) (fzT hz15 rfl) (fzT hz16 rfl) (fzT hz17 rfl) (fzT hz18 rfl) (fzT hz19 rfl) fzZ (fzI hR) hq0 hq1 hq2 (fzI hR) (fun r I' L' h1 h2 u0 u1 u2 u3 u4 u5 u6 => hp r I' L' (fzB hR h1) h2 (fzP h1) u0 u1 u2 u3 u4 u5 u6)
