/-! Safety of the reference, must and point: by program (spec.py). -/
set_option maxHeartbeats 4000000 in
set_option maxRecDepth 20000 in
theorem y_Model_wrong {D : va_G} {cA : FieldType → ClassId} {b : Nat} {E : State → Prop} {R : qRg} {o n : Nat} {sh : Nat → qC} {Rf : Nat → Nat → Option Nat} {I0 : Nat → Nat → Int32} {L0 : Nat → Nat → Int64} {post : Option Value → qS → Prop} (hok : q_ok (qGG D cA b E)) (hw : WfModel (qGG D cA b E) n sh Rf o) (ra : RAModel R o) (hR : RI R I0) (hp : ∀ (I' : Nat → Nat → Int32) (L' : Nat → Nat → Int64), RI R I' → Fm (fun c => c = o) I0 I' → ((I' o 4).toInt ≠ 0) → ((I' o 2).toInt = (I0 o 2).toInt) → ((I' o 3).toInt = (I0 o 3).toInt) → ((I' o 6).toInt = (I0 o 6).toInt) → ((I' o 7).toInt = (I0 o 7).toInt) → ((I' o 8).toInt = (I0 o 8).toInt) → ((I' o 9).toInt = (I0 o 9).toInt) → ((I' o 35).toInt = (I0 o 35).toInt) → ((I' o 44).toInt = (I0 o 44).toInt) → ((I' o 45).toInt = (I0 o 45).toInt) → ((I' o 46).toInt = (I0 o 46).toInt) → ((I' o 47).toInt = (I0 o 47).toInt) → ((I' o 48).toInt = (I0 o 48).toInt) → ((I' o 49).toInt = (I0 o 49).toInt) → ((I' o 67).toInt = (I0 o 67).toInt) → post none (n, sh, Rf, I', L')) : Ev (qGG D cA b E) mModel_wrong 1 (0, 0) 0 (lv_args 0 [.ref o]) [] (n, sh, Rf, I0, L0) post := by
  have hf : Fm (fun c => c = o) I0 I0 := Fm.rf
  have g_1 : (0 : Int) ≤ (I0 o 2).toInt ∧ (I0 o 2).toInt ≤ 1600 := hR.at0 ra 2 (by decide)
  have g_2 : (0 : Int) ≤ (I0 o 3).toInt ∧ (I0 o 3).toInt ≤ 1600 := hR.at0 ra 3 (by decide)
  have g_3 : (0 : Int) ≤ (I0 o 6).toInt ∧ (I0 o 6).toInt ≤ 1600 := hR.at0 ra 6 (by decide)
  have g_4 : (0 : Int) ≤ (I0 o 7).toInt ∧ (I0 o 7).toInt ≤ 1601 := hR.at0 ra 7 (by decide)
  have g_5 : (0 : Int) ≤ (I0 o 35).toInt ∧ (I0 o 35).toInt ≤ 1 := hR.at0 ra 35 (by decide)
  have g_6 : (0 : Int) ≤ (I0 o 67).toInt ∧ (I0 o 67).toInt ≤ 40 := hR.at0 ra 67 (by decide)
  refine sModel_wrong_0 o n sh Rf I0 L0 post  hok hw ?_
  unfold fModel_wrong_0
  have l_7 : (1 : Int32).toInt = 1 := rfl
  refine ⟨fun c_8 => ?_, fun c_8 => ?_⟩
  · have d_9 := iNe c_8
    have g_10 : (0 : Int) ≤ (I0 o 6).toInt ∧ (I0 o 6).toInt ≤ 1600 := hR.at0 ra 6 (by decide)
    have l_11 : (2 : Int32).toInt = 2 := rfl
    refine y_Model_fails hok hw ra (by first | omega | (intro h; omega) | exact Or.inl rfl | exact Or.inr rfl) hR (fun I_29 L_30 hR_31 fr_32 u_13 u_14 u_15 u_16 u_17 u_18 u_19 u_20 u_21 u_22 u_23 u_24 u_25 u_26 u_27 u_28 => ⟨I_29, L_30, rfl, rfl, ?_⟩)
    have hf_33 : Fm (fun c => c = o) I0 I_29 := hf.call fr_32 (fun c hc => by first | exact hc | (dsimp only at hc ⊢; omega) | omega)
    have g_34 : (0 : Int) ≤ (I_29 o 2).toInt ∧ (I_29 o 2).toInt ≤ 1600 := hR_31.at0 ra 2 (by decide)
    have g_35 : (0 : Int) ≤ (I_29 o 3).toInt ∧ (I_29 o 3).toInt ≤ 1600 := hR_31.at0 ra 3 (by decide)
    have g_36 : (0 : Int) ≤ (I_29 o 6).toInt ∧ (I_29 o 6).toInt ≤ 1600 := hR_31.at0 ra 6 (by decide)
    have g_37 : (0 : Int) ≤ (I_29 o 7).toInt ∧ (I_29 o 7).toInt ≤ 1601 := hR_31.at0 ra 7 (by decide)
    have g_38 : (0 : Int) ≤ (I_29 o 35).toInt ∧ (I_29 o 35).toInt ≤ 1 := hR_31.at0 ra 35 (by decide)
    have g_39 : (0 : Int) ≤ (I_29 o 67).toInt ∧ (I_29 o 67).toInt ≤ 40 := hR_31.at0 ra 67 (by decide)
    exact (hp _ _ hR_31 hf_33 (by first | omega | (intro h; omega) | exact Or.inl rfl | exact Or.inr rfl) (by first | omega | (intro h; omega) | exact Or.inl rfl | exact Or.inr rfl) (by first | omega | (intro h; omega) | exact Or.inl rfl | exact Or.inr rfl) (by first | omega | (intro h; omega) | exact Or.inl rfl | exact Or.inr rfl) (by first | omega | (intro h; omega) | exact Or.inl rfl | exact Or.inr rfl) (by first | omega | (intro h; omega) | exact Or.inl rfl | exact Or.inr rfl) (by first | omega | (intro h; omega) | exact Or.inl rfl | exact Or.inr rfl) (by first | omega | (intro h; omega) | exact Or.inl rfl | exact Or.inr rfl) (by first | omega | (intro h; omega) | exact Or.inl rfl | exact Or.inr rfl) (by first | omega | (intro h; omega) | exact Or.inl rfl | exact Or.inr rfl) (by first | omega | (intro h; omega) | exact Or.inl rfl | exact Or.inr rfl) (by first | omega | (intro h; omega) | exact Or.inl rfl | exact Or.inr rfl) (by first | omega | (intro h; omega) | exact Or.inl rfl | exact Or.inr rfl) (by first | omega | (intro h; omega) | exact Or.inl rfl | exact Or.inr rfl) (by first | omega | (intro h; omega) | exact Or.inl rfl | exact Or.inr rfl))
  · have d_40 := iEq c_8
    have g_41 : (0 : Int) ≤ (I0 o 6).toInt ∧ (I0 o 6).toInt ≤ 1600 := hR.at0 ra 6 (by decide)
    refine y_Model_fails hok hw ra (by first | omega | (intro h; omega) | exact Or.inl rfl | exact Or.inr rfl) hR (fun I_59 L_60 hR_61 fr_62 u_43 u_44 u_45 u_46 u_47 u_48 u_49 u_50 u_51 u_52 u_53 u_54 u_55 u_56 u_57 u_58 => ⟨I_59, L_60, rfl, rfl, ?_⟩)
    have hf_63 : Fm (fun c => c = o) I0 I_59 := hf.call fr_62 (fun c hc => by first | exact hc | (dsimp only at hc ⊢; omega) | omega)
    have g_64 : (0 : Int) ≤ (I_59 o 2).toInt ∧ (I_59 o 2).toInt ≤ 1600 := hR_61.at0 ra 2 (by decide)
    have g_65 : (0 : Int) ≤ (I_59 o 3).toInt ∧ (I_59 o 3).toInt ≤ 1600 := hR_61.at0 ra 3 (by decide)
    have g_66 : (0 : Int) ≤ (I_59 o 6).toInt ∧ (I_59 o 6).toInt ≤ 1600 := hR_61.at0 ra 6 (by decide)
    have g_67 : (0 : Int) ≤ (I_59 o 7).toInt ∧ (I_59 o 7).toInt ≤ 1601 := hR_61.at0 ra 7 (by decide)
    have g_68 : (0 : Int) ≤ (I_59 o 35).toInt ∧ (I_59 o 35).toInt ≤ 1 := hR_61.at0 ra 35 (by decide)
    have g_69 : (0 : Int) ≤ (I_59 o 67).toInt ∧ (I_59 o 67).toInt ≤ 40 := hR_61.at0 ra 67 (by decide)
    exact (hp _ _ hR_61 hf_63 (by first | omega | (intro h; omega) | exact Or.inl rfl | exact Or.inr rfl) (by first | omega | (intro h; omega) | exact Or.inl rfl | exact Or.inr rfl) (by first | omega | (intro h; omega) | exact Or.inl rfl | exact Or.inr rfl) (by first | omega | (intro h; omega) | exact Or.inl rfl | exact Or.inr rfl) (by first | omega | (intro h; omega) | exact Or.inl rfl | exact Or.inr rfl) (by first | omega | (intro h; omega) | exact Or.inl rfl | exact Or.inr rfl) (by first | omega | (intro h; omega) | exact Or.inl rfl | exact Or.inr rfl) (by first | omega | (intro h; omega) | exact Or.inl rfl | exact Or.inr rfl) (by first | omega | (intro h; omega) | exact Or.inl rfl | exact Or.inr rfl) (by first | omega | (intro h; omega) | exact Or.inl rfl | exact Or.inr rfl) (by first | omega | (intro h; omega) | exact Or.inl rfl | exact Or.inr rfl) (by first | omega | (intro h; omega) | exact Or.inl rfl | exact Or.inr rfl) (by first | omega | (intro h; omega) | exact Or.inl rfl | exact Or.inr rfl) (by first | omega | (intro h; omega) | exact Or.inl rfl | exact Or.inr rfl) (by first | omega | (intro h; omega) | exact Or.inl rfl | exact Or.inr rfl))
set_option maxHeartbeats 4000000 in
set_option maxRecDepth 20000 in
theorem y_Model_must {D : va_G} {cA : FieldType → ClassId} {b : Nat} {E : State → Prop} {R : qRg} {o n : Nat} {sh : Nat → qC} {Rf : Nat → Nat → Option Nat} {I0 : Nat → Nat → Int32} {L0 : Nat → Nat → Int64} {post : Option Value → qS → Prop} {p1 : Int32} (hok : q_ok (qGG D cA b E)) (hw : WfModel (qGG D cA b E) n sh Rf o) (ra : RAModel R o) (hq0 : (I0 o 7).toInt ≤ (I0 o 3).toInt) (hq1 : Im ((I0 o 8).toInt = 5) (0 ≤ (I0 o 9).toInt ∧ (I0 o 9).toInt ≤ 15)) (hR : RI R I0) (hp : ∀ (I' : Nat → Nat → Int32) (L' : Nat → Nat → Int64), RI R I' → Fm (fun c => c = o) I0 I' → ((I' o 7).toInt ≤ (I' o 3).toInt) → ((I0 o 7).toInt ≤ (I' o 7).toInt) → (Im ((I' o 8).toInt = 5) (0 ≤ (I' o 9).toInt ∧ (I' o 9).toInt ≤ 15)) → (Im ((I0 o 4).toInt ≠ 0) ((I' o 4).toInt ≠ 0)) → (Im (p1.toInt = 0) ((I' o 4).toInt ≠ 0)) → ((I' o 3).toInt = (I0 o 3).toInt) → ((I' o 35).toInt = (I0 o 35).toInt) → ((I' o 44).toInt = (I0 o 44).toInt) → ((I' o 45).toInt = (I0 o 45).toInt) → ((I' o 46).toInt = (I0 o 46).toInt) → ((I' o 47).toInt = (I0 o 47).toInt) → ((I' o 48).toInt = (I0 o 48).toInt) → ((I' o 49).toInt = (I0 o 49).toInt) → ((I' o 67).toInt = (I0 o 67).toInt) → post none (n, sh, Rf, I', L')) : Ev (qGG D cA b E) mModel_must 3 (0, 0) 0 (lv_args 0 [.ref o, .int p1]) [] (n, sh, Rf, I0, L0) post := by
  have hf : Fm (fun c => c = o) I0 I0 := Fm.rf
  have g_1 : (0 : Int) ≤ (I0 o 7).toInt ∧ (I0 o 7).toInt ≤ 1601 := hR.at0 ra 7 (by decide)
  have g_2 : (0 : Int) ≤ (I0 o 3).toInt ∧ (I0 o 3).toInt ≤ 1600 := hR.at0 ra 3 (by decide)
  have g_3 : (0 : Int) ≤ (I0 o 35).toInt ∧ (I0 o 35).toInt ≤ 1 := hR.at0 ra 35 (by decide)
  have g_4 : (0 : Int) ≤ (I0 o 67).toInt ∧ (I0 o 67).toInt ≤ 40 := hR.at0 ra 67 (by decide)
  refine sModel_must_0 o n sh Rf I0 L0 post p1 hok hw ?_
  unfold fModel_must_0
  refine y_Model_isGood hok hw ra hR (fun r_5 u_6 u_7 u_8 => ⟨r_5, I0, L0, rfl, rfl, ?_⟩)
  have b_9 : 0 ≤ r_5.toInt ∧ r_5.toInt ≤ 1 := u_6.rg
  have l_10 : (0 : Int32).toInt = 0 := rfl
  refine ⟨fun c_11 => ?_, fun c_11 => ?_⟩
  · have d_12 := iNe c_11
    have gd := u_7 (by omega)
    refine ⟨fun c_13 => ?_, fun c_13 => ?_⟩
    · have d_14 := iEq c_13
      refine y_Model_wrong hok hw ra hR (fun I_31 L_32 hR_33 fr_34 u_16 u_17 u_18 u_19 u_20 u_21 u_22 u_23 u_24 u_25 u_26 u_27 u_28 u_29 u_30 => ⟨I_31, L_32, rfl, rfl, ?_⟩)
      have hf_35 : Fm (fun c => c = o) I0 I_31 := hf.call fr_34 (fun c hc => by first | exact hc | (dsimp only at hc ⊢; omega) | omega)
      have g_36 : (0 : Int) ≤ (I_31 o 7).toInt ∧ (I_31 o 7).toInt ≤ 1601 := hR_33.at0 ra 7 (by decide)
      have g_37 : (0 : Int) ≤ (I_31 o 3).toInt ∧ (I_31 o 3).toInt ≤ 1600 := hR_33.at0 ra 3 (by decide)
      have g_38 : (0 : Int) ≤ (I_31 o 35).toInt ∧ (I_31 o 35).toInt ≤ 1 := hR_33.at0 ra 35 (by decide)
      have g_39 : (0 : Int) ≤ (I_31 o 67).toInt ∧ (I_31 o 67).toInt ≤ 40 := hR_33.at0 ra 67 (by decide)
      exact (hp _ _ hR_33 hf_35 (by first | omega | (intro h; omega) | exact Or.inl rfl | exact Or.inr rfl) (by first | omega | (intro h; omega) | exact Or.inl rfl | exact Or.inr rfl) (by first | assumption | (intro h; have q := hq1 (by omega); omega)) (by intro _; omega) (by intro _; omega) (by first | omega | (intro h; omega) | exact Or.inl rfl | exact Or.inr rfl) (by first | omega | (intro h; omega) | exact Or.inl rfl | exact Or.inr rfl) (by first | omega | (intro h; omega) | exact Or.inl rfl | exact Or.inr rfl) (by first | omega | (intro h; omega) | exact Or.inl rfl | exact Or.inr rfl) (by first | omega | (intro h; omega) | exact Or.inl rfl | exact Or.inr rfl) (by first | omega | (intro h; omega) | exact Or.inl rfl | exact Or.inr rfl) (by first | omega | (intro h; omega) | exact Or.inl rfl | exact Or.inr rfl) (by first | omega | (intro h; omega) | exact Or.inl rfl | exact Or.inr rfl) (by first | omega | (intro h; omega) | exact Or.inl rfl | exact Or.inr rfl))
    · have d_40 := iNe c_13
      refine y_Model_next hok hw ra (by first | omega | (intro h; omega) | exact Or.inl rfl | exact Or.inr rfl) hR (fun I_56 L_57 hR_58 fr_59 u_42 u_43 u_44 u_45 u_46 u_47 u_48 u_49 u_50 u_51 u_52 u_53 u_54 u_55 => ⟨I_56, L_57, rfl, rfl, ?_⟩)
      have hf_60 : Fm (fun c => c = o) I0 I_56 := hf.call fr_59 (fun c hc => by first | exact hc | (dsimp only at hc ⊢; omega) | omega)
      have g_61 : (0 : Int) ≤ (I_56 o 7).toInt ∧ (I_56 o 7).toInt ≤ 1601 := hR_58.at0 ra 7 (by decide)
      have g_62 : (0 : Int) ≤ (I_56 o 3).toInt ∧ (I_56 o 3).toInt ≤ 1600 := hR_58.at0 ra 3 (by decide)
      have g_63 : (0 : Int) ≤ (I_56 o 35).toInt ∧ (I_56 o 35).toInt ≤ 1 := hR_58.at0 ra 35 (by decide)
      have g_64 : (0 : Int) ≤ (I_56 o 67).toInt ∧ (I_56 o 67).toInt ≤ 40 := hR_58.at0 ra 67 (by decide)
      exact (hp _ _ hR_58 hf_60 (by first | omega | (intro h; omega) | exact Or.inl rfl | exact Or.inr rfl) (by first | omega | (intro h; omega) | exact Or.inl rfl | exact Or.inr rfl) (by first | assumption | (intro h; have q := hq1 (by omega); omega)) (by intro _; omega) (by intro _; omega) (by first | omega | (intro h; omega) | exact Or.inl rfl | exact Or.inr rfl) (by first | omega | (intro h; omega) | exact Or.inl rfl | exact Or.inr rfl) (by first | omega | (intro h; omega) | exact Or.inl rfl | exact Or.inr rfl) (by first | omega | (intro h; omega) | exact Or.inl rfl | exact Or.inr rfl) (by first | omega | (intro h; omega) | exact Or.inl rfl | exact Or.inr rfl) (by first | omega | (intro h; omega) | exact Or.inl rfl | exact Or.inr rfl) (by first | omega | (intro h; omega) | exact Or.inl rfl | exact Or.inr rfl) (by first | omega | (intro h; omega) | exact Or.inl rfl | exact Or.inr rfl) (by first | omega | (intro h; omega) | exact Or.inl rfl | exact Or.inr rfl))
  · have d_65 := iEq c_11
    have gb := u_8 (by omega)
    exact (hp _ _ hR hf (by first | omega | (intro h; omega) | exact Or.inl rfl | exact Or.inr rfl) (by first | omega | (intro h; omega) | exact Or.inl rfl | exact Or.inr rfl) (by first | assumption | (intro h; have q := hq1 (by omega); omega)) (by intro _; omega) (by intro _; omega) (by first | omega | (intro h; omega) | exact Or.inl rfl | exact Or.inr rfl) (by first | omega | (intro h; omega) | exact Or.inl rfl | exact Or.inr rfl) (by first | omega | (intro h; omega) | exact Or.inl rfl | exact Or.inr rfl) (by first | omega | (intro h; omega) | exact Or.inl rfl | exact Or.inr rfl) (by first | omega | (intro h; omega) | exact Or.inl rfl | exact Or.inr rfl) (by first | omega | (intro h; omega) | exact Or.inl rfl | exact Or.inr rfl) (by first | omega | (intro h; omega) | exact Or.inl rfl | exact Or.inr rfl) (by first | omega | (intro h; omega) | exact Or.inl rfl | exact Or.inr rfl) (by first | omega | (intro h; omega) | exact Or.inl rfl | exact Or.inr rfl))
set_option maxHeartbeats 4000000 in
set_option maxRecDepth 20000 in
theorem y_Model_point {D : va_G} {cA : FieldType → ClassId} {b : Nat} {E : State → Prop} {R : qRg} {o n : Nat} {sh : Nat → qC} {Rf : Nat → Nat → Option Nat} {I0 : Nat → Nat → Int32} {L0 : Nat → Nat → Int64} {post : Option Value → qS → Prop} (hok : q_ok (qGG D cA b E)) (hw : WfModel (qGG D cA b E) n sh Rf o) (ra : RAModel R o) (hq0 : (I0 o 7).toInt ≤ (I0 o 3).toInt) (hq1 : Im ((I0 o 8).toInt = 5) (0 ≤ (I0 o 9).toInt ∧ (I0 o 9).toInt ≤ 15)) (hR : RI R I0) (hp : ∀ (r : Int32) (I' : Nat → Nat → Int32) (L' : Nat → Nat → Int64), RI R I' → Fm (fun c => c = o) I0 I' → (((0 : Int) ≤ r.toInt ∧ r.toInt ≤ 15)) → ((I' o 7).toInt ≤ (I' o 3).toInt) → ((I0 o 7).toInt ≤ (I' o 7).toInt) → (Im ((I' o 8).toInt = 5) (0 ≤ (I' o 9).toInt ∧ (I' o 9).toInt ≤ 15)) → (Im ((I0 o 4).toInt ≠ 0) ((I' o 4).toInt ≠ 0)) → ((I' o 3).toInt = (I0 o 3).toInt) → ((I' o 35).toInt = (I0 o 35).toInt) → ((I' o 44).toInt = (I0 o 44).toInt) → ((I' o 45).toInt = (I0 o 45).toInt) → ((I' o 46).toInt = (I0 o 46).toInt) → ((I' o 47).toInt = (I0 o 47).toInt) → ((I' o 48).toInt = (I0 o 48).toInt) → ((I' o 49).toInt = (I0 o 49).toInt) → ((I' o 67).toInt = (I0 o 67).toInt) → post (some (.int r)) (n, sh, Rf, I', L')) : Ev (qGG D cA b E) mModel_point 4 (0, 0) 0 (lv_args 0 [.ref o]) [] (n, sh, Rf, I0, L0) post := by
  have hf : Fm (fun c => c = o) I0 I0 := Fm.rf
  have g_1 : (0 : Int) ≤ (I0 o 7).toInt ∧ (I0 o 7).toInt ≤ 1601 := hR.at0 ra 7 (by decide)
  have g_2 : (0 : Int) ≤ (I0 o 3).toInt ∧ (I0 o 3).toInt ≤ 1600 := hR.at0 ra 3 (by decide)
  have g_3 : (0 : Int) ≤ (I0 o 35).toInt ∧ (I0 o 35).toInt ≤ 1 := hR.at0 ra 35 (by decide)
  have g_4 : (0 : Int) ≤ (I0 o 67).toInt ∧ (I0 o 67).toInt ≤ 40 := hR.at0 ra 67 (by decide)
  refine sModel_point_0 o n sh Rf I0 L0 post  hok hw ?_
  unfold fModel_point_0
  have l_5 : (5 : Int32).toInt = 5 := rfl
  refine ⟨fun c_6 => ?_, fun c_6 => ?_⟩
  · have d_7 := iNe c_6
    unfold fModel_point_19
    have l_8 : (0 : Int32).toInt = 0 := rfl
    refine y_Model_must hok hw ra (by first | omega | (intro h; omega) | exact Or.inl rfl | exact Or.inr rfl) (by first | omega | (intro h; omega) | exact Or.inl rfl | exact Or.inr rfl) hR (fun I_24 L_25 hR_26 fr_27 u_10 u_11 u_12 u_13 u_14 u_15 u_16 u_17 u_18 u_19 u_20 u_21 u_22 u_23 => ⟨I_24, L_25, rfl, rfl, ?_⟩)
    have hf_28 : Fm (fun c => c = o) I0 I_24 := hf.call fr_27 (fun c hc => by first | exact hc | (dsimp only at hc ⊢; omega) | omega)
    have g_29 : (0 : Int) ≤ (I_24 o 7).toInt ∧ (I_24 o 7).toInt ≤ 1601 := hR_26.at0 ra 7 (by decide)
    have g_30 : (0 : Int) ≤ (I_24 o 3).toInt ∧ (I_24 o 3).toInt ≤ 1600 := hR_26.at0 ra 3 (by decide)
    have g_31 : (0 : Int) ≤ (I_24 o 35).toInt ∧ (I_24 o 35).toInt ≤ 1 := hR_26.at0 ra 35 (by decide)
    have g_32 : (0 : Int) ≤ (I_24 o 67).toInt ∧ (I_24 o 67).toInt ≤ 40 := hR_26.at0 ra 67 (by decide)
    refine y_Model_isGood hok hw ra hR_26 (fun r_33 u_34 u_35 u_36 => ⟨r_33, I_24, L_25, rfl, rfl, ?_⟩)
    have b_37 : 0 ≤ r_33.toInt ∧ r_33.toInt ≤ 1 := u_34.rg
    refine ⟨fun c_38 => ?_, fun c_38 => ?_⟩
    · have d_39 := iEq c_38
      exact (hp _ _ _ hR_26 hf_28 (by first | omega | (intro h; omega) | exact Or.inl rfl | exact Or.inr rfl) (by first | omega | (intro h; omega) | exact Or.inl rfl | exact Or.inr rfl) (by first | omega | (intro h; omega) | exact Or.inl rfl | exact Or.inr rfl) (by first | assumption | (intro h; have q := hq1 (by omega); omega)) (by first | assumption | (intro _; omega)) (by first | omega | (intro h; omega) | exact Or.inl rfl | exact Or.inr rfl) (by first | omega | (intro h; omega) | exact Or.inl rfl | exact Or.inr rfl) (by first | omega | (intro h; omega) | exact Or.inl rfl | exact Or.inr rfl) (by first | omega | (intro h; omega) | exact Or.inl rfl | exact Or.inr rfl) (by first | omega | (intro h; omega) | exact Or.inl rfl | exact Or.inr rfl) (by first | omega | (intro h; omega) | exact Or.inl rfl | exact Or.inr rfl) (by first | omega | (intro h; omega) | exact Or.inl rfl | exact Or.inr rfl) (by first | omega | (intro h; omega) | exact Or.inl rfl | exact Or.inr rfl) (by first | omega | (intro h; omega) | exact Or.inl rfl | exact Or.inr rfl))
    · have d_40 := iNe c_38
      have gd := u_35 (by omega)
      have mq : 0 ≤ (I0 o 9).toInt ∧ (I0 o 9).toInt ≤ 15 := by first | exact hq1 (by omega) | exact absurd (u_14 (by omega)) (by omega)
      exact (hp _ _ _ hR_26 hf_28 (by first | omega | (intro h; omega) | exact Or.inl rfl | exact Or.inr rfl) (by first | omega | (intro h; omega) | exact Or.inl rfl | exact Or.inr rfl) (by first | omega | (intro h; omega) | exact Or.inl rfl | exact Or.inr rfl) (by first | assumption | (intro h; have q := hq1 (by omega); omega)) (by first | assumption | (intro _; omega)) (by first | omega | (intro h; omega) | exact Or.inl rfl | exact Or.inr rfl) (by first | omega | (intro h; omega) | exact Or.inl rfl | exact Or.inr rfl) (by first | omega | (intro h; omega) | exact Or.inl rfl | exact Or.inr rfl) (by first | omega | (intro h; omega) | exact Or.inl rfl | exact Or.inr rfl) (by first | omega | (intro h; omega) | exact Or.inl rfl | exact Or.inr rfl) (by first | omega | (intro h; omega) | exact Or.inl rfl | exact Or.inr rfl) (by first | omega | (intro h; omega) | exact Or.inl rfl | exact Or.inr rfl) (by first | omega | (intro h; omega) | exact Or.inl rfl | exact Or.inr rfl) (by first | omega | (intro h; omega) | exact Or.inl rfl | exact Or.inr rfl))
  · have d_41 := iEq c_6
    unfold fModel_point_19
    have l_42 : (1 : Int32).toInt = 1 := rfl
    refine y_Model_must hok hw ra (by first | omega | (intro h; omega) | exact Or.inl rfl | exact Or.inr rfl) (by first | omega | (intro h; omega) | exact Or.inl rfl | exact Or.inr rfl) hR (fun I_58 L_59 hR_60 fr_61 u_44 u_45 u_46 u_47 u_48 u_49 u_50 u_51 u_52 u_53 u_54 u_55 u_56 u_57 => ⟨I_58, L_59, rfl, rfl, ?_⟩)
    have hf_62 : Fm (fun c => c = o) I0 I_58 := hf.call fr_61 (fun c hc => by first | exact hc | (dsimp only at hc ⊢; omega) | omega)
    have g_63 : (0 : Int) ≤ (I_58 o 7).toInt ∧ (I_58 o 7).toInt ≤ 1601 := hR_60.at0 ra 7 (by decide)
    have g_64 : (0 : Int) ≤ (I_58 o 3).toInt ∧ (I_58 o 3).toInt ≤ 1600 := hR_60.at0 ra 3 (by decide)
    have g_65 : (0 : Int) ≤ (I_58 o 35).toInt ∧ (I_58 o 35).toInt ≤ 1 := hR_60.at0 ra 35 (by decide)
    have g_66 : (0 : Int) ≤ (I_58 o 67).toInt ∧ (I_58 o 67).toInt ≤ 40 := hR_60.at0 ra 67 (by decide)
    refine y_Model_isGood hok hw ra hR_60 (fun r_67 u_68 u_69 u_70 => ⟨r_67, I_58, L_59, rfl, rfl, ?_⟩)
    have b_71 : 0 ≤ r_67.toInt ∧ r_67.toInt ≤ 1 := u_68.rg
    have l_72 : (0 : Int32).toInt = 0 := rfl
    refine ⟨fun c_73 => ?_, fun c_73 => ?_⟩
    · have d_74 := iEq c_73
      exact (hp _ _ _ hR_60 hf_62 (by first | omega | (intro h; omega) | exact Or.inl rfl | exact Or.inr rfl) (by first | omega | (intro h; omega) | exact Or.inl rfl | exact Or.inr rfl) (by first | omega | (intro h; omega) | exact Or.inl rfl | exact Or.inr rfl) (by first | assumption | (intro h; have q := hq1 (by omega); omega)) (by first | assumption | (intro _; omega)) (by first | omega | (intro h; omega) | exact Or.inl rfl | exact Or.inr rfl) (by first | omega | (intro h; omega) | exact Or.inl rfl | exact Or.inr rfl) (by first | omega | (intro h; omega) | exact Or.inl rfl | exact Or.inr rfl) (by first | omega | (intro h; omega) | exact Or.inl rfl | exact Or.inr rfl) (by first | omega | (intro h; omega) | exact Or.inl rfl | exact Or.inr rfl) (by first | omega | (intro h; omega) | exact Or.inl rfl | exact Or.inr rfl) (by first | omega | (intro h; omega) | exact Or.inl rfl | exact Or.inr rfl) (by first | omega | (intro h; omega) | exact Or.inl rfl | exact Or.inr rfl) (by first | omega | (intro h; omega) | exact Or.inl rfl | exact Or.inr rfl))
    · have d_75 := iNe c_73
      have gd := u_69 (by omega)
      have mq : 0 ≤ (I0 o 9).toInt ∧ (I0 o 9).toInt ≤ 15 := by first | exact hq1 (by omega) | exact absurd (u_48 (by omega)) (by omega)
      exact (hp _ _ _ hR_60 hf_62 (by first | omega | (intro h; omega) | exact Or.inl rfl | exact Or.inr rfl) (by first | omega | (intro h; omega) | exact Or.inl rfl | exact Or.inr rfl) (by first | omega | (intro h; omega) | exact Or.inl rfl | exact Or.inr rfl) (by first | assumption | (intro h; have q := hq1 (by omega); omega)) (by first | assumption | (intro _; omega)) (by first | omega | (intro h; omega) | exact Or.inl rfl | exact Or.inr rfl) (by first | omega | (intro h; omega) | exact Or.inl rfl | exact Or.inr rfl) (by first | omega | (intro h; omega) | exact Or.inl rfl | exact Or.inr rfl) (by first | omega | (intro h; omega) | exact Or.inl rfl | exact Or.inr rfl) (by first | omega | (intro h; omega) | exact Or.inl rfl | exact Or.inr rfl) (by first | omega | (intro h; omega) | exact Or.inl rfl | exact Or.inr rfl) (by first | omega | (intro h; omega) | exact Or.inl rfl | exact Or.inr rfl) (by first | omega | (intro h; omega) | exact Or.inl rfl | exact Or.inr rfl) (by first | omega | (intro h; omega) | exact Or.inl rfl | exact Or.inr rfl))
