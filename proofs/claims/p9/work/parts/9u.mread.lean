/-! Safety of the reference, must and point: by program (spec.py). -/
set_option maxHeartbeats 4000000 in
set_option maxRecDepth 20000 in
theorem y_Model_wrong {D : va_G} {cA : FieldType → ClassId} {b : Nat} {E : State → Prop} {R : qRg} {o n : Nat} {sh : Nat → qC} {Rf : Nat → Nat → Option Nat} {I0 : Nat → Nat → Int32} {L0 : Nat → Nat → Int64} {post : Option Value → qS → Prop} (hok : q_ok (qGG D cA b E)) (hw : WfModel (qGG D cA b E) n sh Rf o) (ra : RAModel R o) (hR : RI R I0) (hp : ∀ (I' : Nat → Nat → Int32) (L' : Nat → Nat → Int64), RI R I' → Fm (fun c => c = o) I0 I' → ((I' o 4).toInt ≠ 0) → ((I' o 2).toInt = (I0 o 2).toInt) → ((I' o 3).toInt = (I0 o 3).toInt) → ((I' o 6).toInt = (I0 o 6).toInt) → ((I' o 7).toInt = (I0 o 7).toInt) → ((I' o 8).toInt = (I0 o 8).toInt) → ((I' o 9).toInt = (I0 o 9).toInt) → ((I' o 44).toInt = (I0 o 44).toInt) → ((I' o 45).toInt = (I0 o 45).toInt) → ((I' o 46).toInt = (I0 o 46).toInt) → ((I' o 47).toInt = (I0 o 47).toInt) → ((I' o 48).toInt = (I0 o 48).toInt) → ((I' o 49).toInt = (I0 o 49).toInt) → post none (n, sh, Rf, I', L')) : Ev (qGG D cA b E) mModel_wrong 1 (0, 0) 0 (lv_args 0 [.ref o]) [] (n, sh, Rf, I0, L0) post := by
  have hf : Fm (fun c => c = o) I0 I0 := Fm.rf
  have g_1 : (0 : Int) ≤ (I0 o 2).toInt ∧ (I0 o 2).toInt ≤ 1600 := hR.at0 ra 2 (by decide)
  have g_2 : (0 : Int) ≤ (I0 o 3).toInt ∧ (I0 o 3).toInt ≤ 1600 := hR.at0 ra 3 (by decide)
  have g_3 : (0 : Int) ≤ (I0 o 6).toInt ∧ (I0 o 6).toInt ≤ 1600 := hR.at0 ra 6 (by decide)
  have g_4 : (0 : Int) ≤ (I0 o 7).toInt ∧ (I0 o 7).toInt ≤ 1601 := hR.at0 ra 7 (by decide)
  refine sModel_wrong_0 o n sh Rf I0 L0 post  hok hw ?_
  unfold fModel_wrong_0
  have l_5 : (1 : Int32).toInt = 1 := rfl
  refine ⟨fun c_6 => ?_, fun c_6 => ?_⟩
  · have d_7 := iNe c_6
    have g_8 : (0 : Int) ≤ (I0 o 6).toInt ∧ (I0 o 6).toInt ≤ 1600 := hR.at0 ra 6 (by decide)
    have l_9 : (2 : Int32).toInt = 2 := rfl
    refine y_Model_fails hok hw ra (by first | omega | (intro h; omega) | exact Or.inl rfl | exact Or.inr rfl) hR (fun I_25 L_26 hR_27 fr_28 u_11 u_12 u_13 u_14 u_15 u_16 u_17 u_18 u_19 u_20 u_21 u_22 u_23 u_24 => ⟨I_25, L_26, rfl, rfl, ?_⟩)
    have hf_29 : Fm (fun c => c = o) I0 I_25 := hf.call fr_28 (fun c hc => by first | exact hc | (dsimp only at hc ⊢; omega) | omega)
    have g_30 : (0 : Int) ≤ (I_25 o 2).toInt ∧ (I_25 o 2).toInt ≤ 1600 := hR_27.at0 ra 2 (by decide)
    have g_31 : (0 : Int) ≤ (I_25 o 3).toInt ∧ (I_25 o 3).toInt ≤ 1600 := hR_27.at0 ra 3 (by decide)
    have g_32 : (0 : Int) ≤ (I_25 o 6).toInt ∧ (I_25 o 6).toInt ≤ 1600 := hR_27.at0 ra 6 (by decide)
    have g_33 : (0 : Int) ≤ (I_25 o 7).toInt ∧ (I_25 o 7).toInt ≤ 1601 := hR_27.at0 ra 7 (by decide)
    exact (hp _ _ hR_27 hf_29 (by first | omega | (intro h; omega) | exact Or.inl rfl | exact Or.inr rfl) (by first | omega | (intro h; omega) | exact Or.inl rfl | exact Or.inr rfl) (by first | omega | (intro h; omega) | exact Or.inl rfl | exact Or.inr rfl) (by first | omega | (intro h; omega) | exact Or.inl rfl | exact Or.inr rfl) (by first | omega | (intro h; omega) | exact Or.inl rfl | exact Or.inr rfl) (by first | omega | (intro h; omega) | exact Or.inl rfl | exact Or.inr rfl) (by first | omega | (intro h; omega) | exact Or.inl rfl | exact Or.inr rfl) (by first | omega | (intro h; omega) | exact Or.inl rfl | exact Or.inr rfl) (by first | omega | (intro h; omega) | exact Or.inl rfl | exact Or.inr rfl) (by first | omega | (intro h; omega) | exact Or.inl rfl | exact Or.inr rfl) (by first | omega | (intro h; omega) | exact Or.inl rfl | exact Or.inr rfl) (by first | omega | (intro h; omega) | exact Or.inl rfl | exact Or.inr rfl) (by first | omega | (intro h; omega) | exact Or.inl rfl | exact Or.inr rfl))
  · have d_34 := iEq c_6
    have g_35 : (0 : Int) ≤ (I0 o 6).toInt ∧ (I0 o 6).toInt ≤ 1600 := hR.at0 ra 6 (by decide)
    refine y_Model_fails hok hw ra (by first | omega | (intro h; omega) | exact Or.inl rfl | exact Or.inr rfl) hR (fun I_51 L_52 hR_53 fr_54 u_37 u_38 u_39 u_40 u_41 u_42 u_43 u_44 u_45 u_46 u_47 u_48 u_49 u_50 => ⟨I_51, L_52, rfl, rfl, ?_⟩)
    have hf_55 : Fm (fun c => c = o) I0 I_51 := hf.call fr_54 (fun c hc => by first | exact hc | (dsimp only at hc ⊢; omega) | omega)
    have g_56 : (0 : Int) ≤ (I_51 o 2).toInt ∧ (I_51 o 2).toInt ≤ 1600 := hR_53.at0 ra 2 (by decide)
    have g_57 : (0 : Int) ≤ (I_51 o 3).toInt ∧ (I_51 o 3).toInt ≤ 1600 := hR_53.at0 ra 3 (by decide)
    have g_58 : (0 : Int) ≤ (I_51 o 6).toInt ∧ (I_51 o 6).toInt ≤ 1600 := hR_53.at0 ra 6 (by decide)
    have g_59 : (0 : Int) ≤ (I_51 o 7).toInt ∧ (I_51 o 7).toInt ≤ 1601 := hR_53.at0 ra 7 (by decide)
    exact (hp _ _ hR_53 hf_55 (by first | omega | (intro h; omega) | exact Or.inl rfl | exact Or.inr rfl) (by first | omega | (intro h; omega) | exact Or.inl rfl | exact Or.inr rfl) (by first | omega | (intro h; omega) | exact Or.inl rfl | exact Or.inr rfl) (by first | omega | (intro h; omega) | exact Or.inl rfl | exact Or.inr rfl) (by first | omega | (intro h; omega) | exact Or.inl rfl | exact Or.inr rfl) (by first | omega | (intro h; omega) | exact Or.inl rfl | exact Or.inr rfl) (by first | omega | (intro h; omega) | exact Or.inl rfl | exact Or.inr rfl) (by first | omega | (intro h; omega) | exact Or.inl rfl | exact Or.inr rfl) (by first | omega | (intro h; omega) | exact Or.inl rfl | exact Or.inr rfl) (by first | omega | (intro h; omega) | exact Or.inl rfl | exact Or.inr rfl) (by first | omega | (intro h; omega) | exact Or.inl rfl | exact Or.inr rfl) (by first | omega | (intro h; omega) | exact Or.inl rfl | exact Or.inr rfl) (by first | omega | (intro h; omega) | exact Or.inl rfl | exact Or.inr rfl))
set_option maxHeartbeats 4000000 in
set_option maxRecDepth 20000 in
theorem y_Model_must {D : va_G} {cA : FieldType → ClassId} {b : Nat} {E : State → Prop} {R : qRg} {o n : Nat} {sh : Nat → qC} {Rf : Nat → Nat → Option Nat} {I0 : Nat → Nat → Int32} {L0 : Nat → Nat → Int64} {post : Option Value → qS → Prop} {p1 : Int32} (hok : q_ok (qGG D cA b E)) (hw : WfModel (qGG D cA b E) n sh Rf o) (ra : RAModel R o) (hq0 : (I0 o 7).toInt ≤ (I0 o 3).toInt) (hq1 : Im ((I0 o 8).toInt = 5) (0 ≤ (I0 o 9).toInt ∧ (I0 o 9).toInt ≤ 15)) (hR : RI R I0) (hp : ∀ (I' : Nat → Nat → Int32) (L' : Nat → Nat → Int64), RI R I' → Fm (fun c => c = o) I0 I' → ((I' o 7).toInt ≤ (I' o 3).toInt) → ((I0 o 7).toInt ≤ (I' o 7).toInt) → (Im ((I' o 8).toInt = 5) (0 ≤ (I' o 9).toInt ∧ (I' o 9).toInt ≤ 15)) → (Im ((I0 o 4).toInt ≠ 0) ((I' o 4).toInt ≠ 0)) → (Im (p1.toInt = 0) ((I' o 4).toInt ≠ 0)) → ((I' o 3).toInt = (I0 o 3).toInt) → ((I' o 44).toInt = (I0 o 44).toInt) → ((I' o 45).toInt = (I0 o 45).toInt) → ((I' o 46).toInt = (I0 o 46).toInt) → ((I' o 47).toInt = (I0 o 47).toInt) → ((I' o 48).toInt = (I0 o 48).toInt) → ((I' o 49).toInt = (I0 o 49).toInt) → post none (n, sh, Rf, I', L')) : Ev (qGG D cA b E) mModel_must 3 (0, 0) 0 (lv_args 0 [.ref o, .int p1]) [] (n, sh, Rf, I0, L0) post := by
  have hf : Fm (fun c => c = o) I0 I0 := Fm.rf
  have g_1 : (0 : Int) ≤ (I0 o 7).toInt ∧ (I0 o 7).toInt ≤ 1601 := hR.at0 ra 7 (by decide)
  have g_2 : (0 : Int) ≤ (I0 o 3).toInt ∧ (I0 o 3).toInt ≤ 1600 := hR.at0 ra 3 (by decide)
  refine sModel_must_0 o n sh Rf I0 L0 post p1 hok hw ?_
  unfold fModel_must_0
  refine y_Model_isGood hok hw ra hR (fun r_3 u_4 u_5 u_6 => ⟨r_3, I0, L0, rfl, rfl, ?_⟩)
  have b_7 : 0 ≤ r_3.toInt ∧ r_3.toInt ≤ 1 := u_4.rg
  have l_8 : (0 : Int32).toInt = 0 := rfl
  refine ⟨fun c_9 => ?_, fun c_9 => ?_⟩
  · have d_10 := iNe c_9
    have gd := u_5 (by omega)
    refine ⟨fun c_11 => ?_, fun c_11 => ?_⟩
    · have d_12 := iEq c_11
      refine y_Model_wrong hok hw ra hR (fun I_27 L_28 hR_29 fr_30 u_14 u_15 u_16 u_17 u_18 u_19 u_20 u_21 u_22 u_23 u_24 u_25 u_26 => ⟨I_27, L_28, rfl, rfl, ?_⟩)
      have hf_31 : Fm (fun c => c = o) I0 I_27 := hf.call fr_30 (fun c hc => by first | exact hc | (dsimp only at hc ⊢; omega) | omega)
      have g_32 : (0 : Int) ≤ (I_27 o 7).toInt ∧ (I_27 o 7).toInt ≤ 1601 := hR_29.at0 ra 7 (by decide)
      have g_33 : (0 : Int) ≤ (I_27 o 3).toInt ∧ (I_27 o 3).toInt ≤ 1600 := hR_29.at0 ra 3 (by decide)
      exact (hp _ _ hR_29 hf_31 (by first | omega | (intro h; omega) | exact Or.inl rfl | exact Or.inr rfl) (by first | omega | (intro h; omega) | exact Or.inl rfl | exact Or.inr rfl) (by first | assumption | (intro h; have q := hq1 (by omega); omega)) (by intro _; omega) (by intro _; omega) (by first | omega | (intro h; omega) | exact Or.inl rfl | exact Or.inr rfl) (by first | omega | (intro h; omega) | exact Or.inl rfl | exact Or.inr rfl) (by first | omega | (intro h; omega) | exact Or.inl rfl | exact Or.inr rfl) (by first | omega | (intro h; omega) | exact Or.inl rfl | exact Or.inr rfl) (by first | omega | (intro h; omega) | exact Or.inl rfl | exact Or.inr rfl) (by first | omega | (intro h; omega) | exact Or.inl rfl | exact Or.inr rfl) (by first | omega | (intro h; omega) | exact Or.inl rfl | exact Or.inr rfl))
    · have d_34 := iNe c_11
      refine y_Model_next hok hw ra (by first | omega | (intro h; omega) | exact Or.inl rfl | exact Or.inr rfl) hR (fun I_48 L_49 hR_50 fr_51 u_36 u_37 u_38 u_39 u_40 u_41 u_42 u_43 u_44 u_45 u_46 u_47 => ⟨I_48, L_49, rfl, rfl, ?_⟩)
      have hf_52 : Fm (fun c => c = o) I0 I_48 := hf.call fr_51 (fun c hc => by first | exact hc | (dsimp only at hc ⊢; omega) | omega)
      have g_53 : (0 : Int) ≤ (I_48 o 7).toInt ∧ (I_48 o 7).toInt ≤ 1601 := hR_50.at0 ra 7 (by decide)
      have g_54 : (0 : Int) ≤ (I_48 o 3).toInt ∧ (I_48 o 3).toInt ≤ 1600 := hR_50.at0 ra 3 (by decide)
      exact (hp _ _ hR_50 hf_52 (by first | omega | (intro h; omega) | exact Or.inl rfl | exact Or.inr rfl) (by first | omega | (intro h; omega) | exact Or.inl rfl | exact Or.inr rfl) (by first | assumption | (intro h; have q := hq1 (by omega); omega)) (by intro _; omega) (by intro _; omega) (by first | omega | (intro h; omega) | exact Or.inl rfl | exact Or.inr rfl) (by first | omega | (intro h; omega) | exact Or.inl rfl | exact Or.inr rfl) (by first | omega | (intro h; omega) | exact Or.inl rfl | exact Or.inr rfl) (by first | omega | (intro h; omega) | exact Or.inl rfl | exact Or.inr rfl) (by first | omega | (intro h; omega) | exact Or.inl rfl | exact Or.inr rfl) (by first | omega | (intro h; omega) | exact Or.inl rfl | exact Or.inr rfl) (by first | omega | (intro h; omega) | exact Or.inl rfl | exact Or.inr rfl))
  · have d_55 := iEq c_9
    have gb := u_6 (by omega)
    exact (hp _ _ hR hf (by first | omega | (intro h; omega) | exact Or.inl rfl | exact Or.inr rfl) (by first | omega | (intro h; omega) | exact Or.inl rfl | exact Or.inr rfl) (by first | assumption | (intro h; have q := hq1 (by omega); omega)) (by intro _; omega) (by intro _; omega) (by first | omega | (intro h; omega) | exact Or.inl rfl | exact Or.inr rfl) (by first | omega | (intro h; omega) | exact Or.inl rfl | exact Or.inr rfl) (by first | omega | (intro h; omega) | exact Or.inl rfl | exact Or.inr rfl) (by first | omega | (intro h; omega) | exact Or.inl rfl | exact Or.inr rfl) (by first | omega | (intro h; omega) | exact Or.inl rfl | exact Or.inr rfl) (by first | omega | (intro h; omega) | exact Or.inl rfl | exact Or.inr rfl) (by first | omega | (intro h; omega) | exact Or.inl rfl | exact Or.inr rfl))
set_option maxHeartbeats 4000000 in
set_option maxRecDepth 20000 in
theorem y_Model_point {D : va_G} {cA : FieldType → ClassId} {b : Nat} {E : State → Prop} {R : qRg} {o n : Nat} {sh : Nat → qC} {Rf : Nat → Nat → Option Nat} {I0 : Nat → Nat → Int32} {L0 : Nat → Nat → Int64} {post : Option Value → qS → Prop} (hok : q_ok (qGG D cA b E)) (hw : WfModel (qGG D cA b E) n sh Rf o) (ra : RAModel R o) (hq0 : (I0 o 7).toInt ≤ (I0 o 3).toInt) (hq1 : Im ((I0 o 8).toInt = 5) (0 ≤ (I0 o 9).toInt ∧ (I0 o 9).toInt ≤ 15)) (hR : RI R I0) (hp : ∀ (r : Int32) (I' : Nat → Nat → Int32) (L' : Nat → Nat → Int64), RI R I' → Fm (fun c => c = o) I0 I' → (((0 : Int) ≤ r.toInt ∧ r.toInt ≤ 15)) → ((I' o 7).toInt ≤ (I' o 3).toInt) → ((I0 o 7).toInt ≤ (I' o 7).toInt) → (Im ((I' o 8).toInt = 5) (0 ≤ (I' o 9).toInt ∧ (I' o 9).toInt ≤ 15)) → (Im ((I0 o 4).toInt ≠ 0) ((I' o 4).toInt ≠ 0)) → ((I' o 3).toInt = (I0 o 3).toInt) → ((I' o 44).toInt = (I0 o 44).toInt) → ((I' o 45).toInt = (I0 o 45).toInt) → ((I' o 46).toInt = (I0 o 46).toInt) → ((I' o 47).toInt = (I0 o 47).toInt) → ((I' o 48).toInt = (I0 o 48).toInt) → ((I' o 49).toInt = (I0 o 49).toInt) → post (some (.int r)) (n, sh, Rf, I', L')) : Ev (qGG D cA b E) mModel_point 4 (0, 0) 0 (lv_args 0 [.ref o]) [] (n, sh, Rf, I0, L0) post := by
  have hf : Fm (fun c => c = o) I0 I0 := Fm.rf
  have g_1 : (0 : Int) ≤ (I0 o 7).toInt ∧ (I0 o 7).toInt ≤ 1601 := hR.at0 ra 7 (by decide)
  have g_2 : (0 : Int) ≤ (I0 o 3).toInt ∧ (I0 o 3).toInt ≤ 1600 := hR.at0 ra 3 (by decide)
  refine sModel_point_0 o n sh Rf I0 L0 post  hok hw ?_
  unfold fModel_point_0
  have l_3 : (5 : Int32).toInt = 5 := rfl
  refine ⟨fun c_4 => ?_, fun c_4 => ?_⟩
  · have d_5 := iNe c_4
    unfold fModel_point_19
    have l_6 : (0 : Int32).toInt = 0 := rfl
    refine y_Model_must hok hw ra (by first | omega | (intro h; omega) | exact Or.inl rfl | exact Or.inr rfl) (by first | omega | (intro h; omega) | exact Or.inl rfl | exact Or.inr rfl) hR (fun I_20 L_21 hR_22 fr_23 u_8 u_9 u_10 u_11 u_12 u_13 u_14 u_15 u_16 u_17 u_18 u_19 => ⟨I_20, L_21, rfl, rfl, ?_⟩)
    have hf_24 : Fm (fun c => c = o) I0 I_20 := hf.call fr_23 (fun c hc => by first | exact hc | (dsimp only at hc ⊢; omega) | omega)
    have g_25 : (0 : Int) ≤ (I_20 o 7).toInt ∧ (I_20 o 7).toInt ≤ 1601 := hR_22.at0 ra 7 (by decide)
    have g_26 : (0 : Int) ≤ (I_20 o 3).toInt ∧ (I_20 o 3).toInt ≤ 1600 := hR_22.at0 ra 3 (by decide)
    refine y_Model_isGood hok hw ra hR_22 (fun r_27 u_28 u_29 u_30 => ⟨r_27, I_20, L_21, rfl, rfl, ?_⟩)
    have b_31 : 0 ≤ r_27.toInt ∧ r_27.toInt ≤ 1 := u_28.rg
    refine ⟨fun c_32 => ?_, fun c_32 => ?_⟩
    · have d_33 := iEq c_32
      exact (hp _ _ _ hR_22 hf_24 (by first | omega | (intro h; omega) | exact Or.inl rfl | exact Or.inr rfl) (by first | omega | (intro h; omega) | exact Or.inl rfl | exact Or.inr rfl) (by first | omega | (intro h; omega) | exact Or.inl rfl | exact Or.inr rfl) (by first | assumption | (intro h; have q := hq1 (by omega); omega)) (by first | assumption | (intro _; omega)) (by first | omega | (intro h; omega) | exact Or.inl rfl | exact Or.inr rfl) (by first | omega | (intro h; omega) | exact Or.inl rfl | exact Or.inr rfl) (by first | omega | (intro h; omega) | exact Or.inl rfl | exact Or.inr rfl) (by first | omega | (intro h; omega) | exact Or.inl rfl | exact Or.inr rfl) (by first | omega | (intro h; omega) | exact Or.inl rfl | exact Or.inr rfl) (by first | omega | (intro h; omega) | exact Or.inl rfl | exact Or.inr rfl) (by first | omega | (intro h; omega) | exact Or.inl rfl | exact Or.inr rfl))
    · have d_34 := iNe c_32
      have gd := u_29 (by omega)
      have mq : 0 ≤ (I0 o 9).toInt ∧ (I0 o 9).toInt ≤ 15 := by first | exact hq1 (by omega) | exact absurd (u_12 (by omega)) (by omega)
      exact (hp _ _ _ hR_22 hf_24 (by first | omega | (intro h; omega) | exact Or.inl rfl | exact Or.inr rfl) (by first | omega | (intro h; omega) | exact Or.inl rfl | exact Or.inr rfl) (by first | omega | (intro h; omega) | exact Or.inl rfl | exact Or.inr rfl) (by first | assumption | (intro h; have q := hq1 (by omega); omega)) (by first | assumption | (intro _; omega)) (by first | omega | (intro h; omega) | exact Or.inl rfl | exact Or.inr rfl) (by first | omega | (intro h; omega) | exact Or.inl rfl | exact Or.inr rfl) (by first | omega | (intro h; omega) | exact Or.inl rfl | exact Or.inr rfl) (by first | omega | (intro h; omega) | exact Or.inl rfl | exact Or.inr rfl) (by first | omega | (intro h; omega) | exact Or.inl rfl | exact Or.inr rfl) (by first | omega | (intro h; omega) | exact Or.inl rfl | exact Or.inr rfl) (by first | omega | (intro h; omega) | exact Or.inl rfl | exact Or.inr rfl))
  · have d_35 := iEq c_4
    unfold fModel_point_19
    have l_36 : (1 : Int32).toInt = 1 := rfl
    refine y_Model_must hok hw ra (by first | omega | (intro h; omega) | exact Or.inl rfl | exact Or.inr rfl) (by first | omega | (intro h; omega) | exact Or.inl rfl | exact Or.inr rfl) hR (fun I_50 L_51 hR_52 fr_53 u_38 u_39 u_40 u_41 u_42 u_43 u_44 u_45 u_46 u_47 u_48 u_49 => ⟨I_50, L_51, rfl, rfl, ?_⟩)
    have hf_54 : Fm (fun c => c = o) I0 I_50 := hf.call fr_53 (fun c hc => by first | exact hc | (dsimp only at hc ⊢; omega) | omega)
    have g_55 : (0 : Int) ≤ (I_50 o 7).toInt ∧ (I_50 o 7).toInt ≤ 1601 := hR_52.at0 ra 7 (by decide)
    have g_56 : (0 : Int) ≤ (I_50 o 3).toInt ∧ (I_50 o 3).toInt ≤ 1600 := hR_52.at0 ra 3 (by decide)
    refine y_Model_isGood hok hw ra hR_52 (fun r_57 u_58 u_59 u_60 => ⟨r_57, I_50, L_51, rfl, rfl, ?_⟩)
    have b_61 : 0 ≤ r_57.toInt ∧ r_57.toInt ≤ 1 := u_58.rg
    have l_62 : (0 : Int32).toInt = 0 := rfl
    refine ⟨fun c_63 => ?_, fun c_63 => ?_⟩
    · have d_64 := iEq c_63
      exact (hp _ _ _ hR_52 hf_54 (by first | omega | (intro h; omega) | exact Or.inl rfl | exact Or.inr rfl) (by first | omega | (intro h; omega) | exact Or.inl rfl | exact Or.inr rfl) (by first | omega | (intro h; omega) | exact Or.inl rfl | exact Or.inr rfl) (by first | assumption | (intro h; have q := hq1 (by omega); omega)) (by first | assumption | (intro _; omega)) (by first | omega | (intro h; omega) | exact Or.inl rfl | exact Or.inr rfl) (by first | omega | (intro h; omega) | exact Or.inl rfl | exact Or.inr rfl) (by first | omega | (intro h; omega) | exact Or.inl rfl | exact Or.inr rfl) (by first | omega | (intro h; omega) | exact Or.inl rfl | exact Or.inr rfl) (by first | omega | (intro h; omega) | exact Or.inl rfl | exact Or.inr rfl) (by first | omega | (intro h; omega) | exact Or.inl rfl | exact Or.inr rfl) (by first | omega | (intro h; omega) | exact Or.inl rfl | exact Or.inr rfl))
    · have d_65 := iNe c_63
      have gd := u_59 (by omega)
      have mq : 0 ≤ (I0 o 9).toInt ∧ (I0 o 9).toInt ≤ 15 := by first | exact hq1 (by omega) | exact absurd (u_42 (by omega)) (by omega)
      exact (hp _ _ _ hR_52 hf_54 (by first | omega | (intro h; omega) | exact Or.inl rfl | exact Or.inr rfl) (by first | omega | (intro h; omega) | exact Or.inl rfl | exact Or.inr rfl) (by first | omega | (intro h; omega) | exact Or.inl rfl | exact Or.inr rfl) (by first | assumption | (intro h; have q := hq1 (by omega); omega)) (by first | assumption | (intro _; omega)) (by first | omega | (intro h; omega) | exact Or.inl rfl | exact Or.inr rfl) (by first | omega | (intro h; omega) | exact Or.inl rfl | exact Or.inr rfl) (by first | omega | (intro h; omega) | exact Or.inl rfl | exact Or.inr rfl) (by first | omega | (intro h; omega) | exact Or.inl rfl | exact Or.inr rfl) (by first | omega | (intro h; omega) | exact Or.inl rfl | exact Or.inr rfl) (by first | omega | (intro h; omega) | exact Or.inl rfl | exact Or.inr rfl) (by first | omega | (intro h; omega) | exact Or.inl rfl | exact Or.inr rfl))
