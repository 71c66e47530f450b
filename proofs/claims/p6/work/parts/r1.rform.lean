/-! The mirror of REFORM's reading, class. By program (rrun.py). -/
noncomputable def gReform_emit_0 (o : Nat) (J : gJ) (L : gL) (x1 : Int) : Int × gJ × gL := gLet (J o 4) (fun (v_1 : Int) => (if 700 ≤ v_1 then (0, J, L) else gLet (J o 4) (fun (v_2 : Int) => gLet (q_u J (o + 1) (Int.toNat v_2) x1) (fun (J_3 : gJ) => gLet (J_3 o 4) (fun (v_4 : Int) => gLet (v_4 + 1) (fun (v_5 : Int) => gLet (q_u J_3 o 4 v_5) (fun (J_6 : gJ) => (0, J_6, L))))))))
theorem eReform_emit_0 {o : Nat} {J : gJ} {L : gL} {x1 : Int} : gReform_emit_0 o J L x1 = gLet (J o 4) (fun (v_1 : Int) => (if 700 ≤ v_1 then (0, J, L) else gLet (J o 4) (fun (v_2 : Int) => gLet (q_u J (o + 1) (Int.toNat v_2) x1) (fun (J_3 : gJ) => gLet (J_3 o 4) (fun (v_4 : Int) => gLet (v_4 + 1) (fun (v_5 : Int) => gLet (q_u J_3 o 4 v_5) (fun (J_6 : gJ) => (0, J_6, L)))))))) := rfl
set_option maxHeartbeats 4000000 in
set_option maxRecDepth 20000 in
theorem y_Reform_emitg {D : va_G} {cA : FieldType → ClassId} {b : Nat} {E : State → Prop} {R : qRg} {o n : Nat} {sh : Nat → qC} {Rf : Nat → Nat → Option Nat} {I0 : Nat → Nat → Int32} {L0 : Nat → Nat → Int64} {post : Option Value → qS → Prop} {p1 : Int32} (hok : q_ok (qGG D cA b E)) (hw : WfReform (qGG D cA b E) n sh Rf o) (ra : RAReform R o) (hq0 : (0 : Int) ≤ p1.toInt ∧ p1.toInt ≤ 2147483647) (hR : RI R I0) (hp : ∀ (I' : Nat → Nat → Int32) (L' : Nat → Nat → Int64), RI R I' → Fm (fun c => (o ≤ c ∧ c < o + 5)) I0 I' → ((I' o 6).toInt = (I0 o 6).toInt) → ((I' o 8).toInt = (I0 o 8).toInt) → (gReform_emit_0 o (tI I0) L0 (p1).toInt = (0, tI I', L')) → (FmL (fun c => False) L0 L') → post none (n, sh, Rf, I', L')) : Ev (qGG D cA b E) mReform_emit 0 (0, 0) 0 (lv_args 0 [.ref o, .int p1]) [] (n, sh, Rf, I0, L0) post := by
  have hf : Fm (fun c => (o ≤ c ∧ c < o + 5)) I0 I0 := Fm.rf
  have g_1 : (0 : Int) ≤ (I0 o 6).toInt ∧ (I0 o 6).toInt ≤ 5 := hR.at0 ra 6 (by decide)
  have g_2 : (-1 : Int) ≤ (I0 o 8).toInt ∧ (I0 o 8).toInt ≤ 10 := hR.at0 ra 8 (by decide)
  refine sReform_emit_0 o n sh Rf I0 L0 post p1 hok hw ?_
  unfold fReform_emit_0
  have hl : FmL (fun c => False) L0 L0 := FmL.rf
  have hg : gReform_emit_0 o (tI I0) L0 (p1).toInt = gReform_emit_0 o (tI I0) L0 (p1).toInt := rfl
  replace hg := (eReform_emit_0).symm.trans hg
  have g_3 : (0 : Int) ≤ (I0 o 4).toInt ∧ (I0 o 4).toInt ≤ 700 := hR.at0 ra 4 (by decide)
  replace hg := gt_let (y := (I0 o 4).toInt) rfl hg
  have l_4 : (700 : Int32).toInt = 700 := rfl
  refine ⟨fun c_5 => ?_, fun c_5 => ?_⟩
  · have d_6 := iLe c_5
    replace hg := gt_pos (by first | exact d_6 | omega) hg
    exact (hp _ _ hR hf (by first | omega | (intro h; omega) | exact Or.inl rfl | exact Or.inr rfl) (by first | omega | (intro h; omega) | exact Or.inl rfl | exact Or.inr rfl) hg.symm hl)
  · have d_7 := iNle c_5
    replace hg := gt_neg (by first | exact d_7 | omega) hg
    have g_8 : (0 : Int) ≤ (I0 o 4).toInt ∧ (I0 o 4).toInt ≤ 700 := hR.at0 ra 4 (by decide)
    replace hg := gt_let (y := (I0 o 4).toInt) rfl hg
    refine ⟨tIn (by omega) (by omega), fun I_9 e_10 => ?_⟩
    replace hg := gt_let (y := tI I_9) (tI_q e_10) hg
    have hR_11 : RI R I_9 := hR.up ra 1 (by decide) (Or.inl rfl) e_10 (show (0 : Int) ≤ p1.toInt by omega) (show p1.toInt ≤ (2147483647 : Int) by omega)
    have hf_12 : Fm (fun c => (o ≤ c ∧ c < o + 5)) I0 I_9 := hf.set (by first | rfl | omega | (dsimp only; omega)) e_10
    have t_13 : (I_9 o 6).toInt = (I0 o 6).toInt := by rw [← e_10, q_u_ne (by omega)]
    have t_14 : (I_9 o 8).toInt = (I0 o 8).toInt := by rw [← e_10, q_u_ne (by omega)]
    have t_15 : (I_9 o 4).toInt = (I0 o 4).toInt := by rw [← e_10, q_u_ne (by omega)]
    have g_16 : (0 : Int) ≤ (I_9 o 4).toInt ∧ (I_9 o 4).toInt ≤ 700 := hR_11.at0 ra 4 (by decide)
    replace hg := gt_let (y := (I_9 o 4).toInt) rfl hg
    have l_17 : (1 : Int32).toInt = 1 := rfl
    have a_18 : ((I_9 o 4) + 1).toInt = (I_9 o 4).toInt + (1 : Int32).toInt := tAdd (by omega) (by omega)
    replace hg := gt_let (y := (((I_9 o 4) + 1) : Int32).toInt) (by omega) hg
    refine fun I_19 e_20 => ?_
    replace hg := gt_let (y := tI I_19) (tI_q e_20) hg
    have hR_21 : RI R I_19 := hR_11.up0 (k := 4) ra (by decide) (Or.inl rfl) e_20 (show (0 : Int) ≤ ((I_9 o 4) + 1).toInt by omega) (show ((I_9 o 4) + 1).toInt ≤ (700 : Int) by omega)
    have hf_22 : Fm (fun c => (o ≤ c ∧ c < o + 5)) I0 I_19 := hf_12.set (by first | rfl | omega | (dsimp only; omega)) e_20
    have t_23 : (I_19 o 6).toInt = (I_9 o 6).toInt := by rw [← e_20, q_u_k (by decide)]
    have t_24 : (I_19 o 8).toInt = (I_9 o 8).toInt := by rw [← e_20, q_u_k (by decide)]
    have t_25 : (I_19 o 4).toInt = ((I_9 o 4) + 1).toInt := by rw [← e_20, q_u_at]
    exact (hp _ _ hR_21 hf_22 (by first | omega | (intro h; omega) | exact Or.inl rfl | exact Or.inr rfl) (by first | omega | (intro h; omega) | exact Or.inl rfl | exact Or.inr rfl) hg.symm hl)
noncomputable def gReform_isAsked_11 (J : gJ) (L : gL) (x0 : Int) : Int := 1
theorem eReform_isAsked_11 {J : gJ} {L : gL} {x0 : Int} : gReform_isAsked_11  J L x0 = 1 := rfl
noncomputable def gReform_isAsked_0 (J : gJ) (L : gL) (x0 : Int) : Int := (if x0 = 4 then (gReform_isAsked_11  J L x0) else (if x0 < 23 then 0 else (gReform_isAsked_11  J L x0)))
theorem eReform_isAsked_0 {J : gJ} {L : gL} {x0 : Int} : gReform_isAsked_0  J L x0 = (if x0 = 4 then (gReform_isAsked_11  J L x0) else (if x0 < 23 then 0 else (gReform_isAsked_11  J L x0))) := rfl
set_option maxHeartbeats 4000000 in
set_option maxRecDepth 20000 in
theorem y_Reform_isAskedg {D : va_G} {cA : FieldType → ClassId} {b : Nat} {E : State → Prop} {R : qRg} {n : Nat} {sh : Nat → qC} {Rf : Nat → Nat → Option Nat} {I0 : Nat → Nat → Int32} {L0 : Nat → Nat → Int64} {post : Option Value → qS → Prop} {p0 : Int32} (hok : q_ok (qGG D cA b E)) (hR : RI R I0) (hp : ∀ (r : Int32) , (Bz r) → (Im (r.toInt ≠ 0) (4 ≤ p0.toInt)) → (gReform_isAsked_0  (tI I0) L0 (p0).toInt = r.toInt) → post (some (.int r)) (n, sh, Rf, I0, L0)) : Ev (qGG D cA b E) mReform_isAsked 0 (0, 0) 0 (lv_args 0 [.int p0]) [] (n, sh, Rf, I0, L0) post := by
  refine sReform_isAsked_0 n sh Rf I0 L0 post p0 hok  ?_
  unfold fReform_isAsked_0
  have hg : gReform_isAsked_0  (tI I0) L0 (p0).toInt = gReform_isAsked_0  (tI I0) L0 (p0).toInt := rfl
  replace hg := (eReform_isAsked_0).symm.trans hg
  have l_1 : (4 : Int32).toInt = 4 := rfl
  refine ⟨fun c_2 => ?_, fun c_2 => ?_⟩
  · have d_3 := iEq c_2
    replace hg := gt_pos (by first | exact d_3 | omega) hg
    unfold fReform_isAsked_11
    replace hg := (eReform_isAsked_11).symm.trans hg
    have l_4 : (1 : Int32).toInt = 1 := rfl
    exact (hp _ (Or.inr rfl) (by clear hg; intro _; omega) hg.symm)
  · have d_5 := iNe c_2
    replace hg := gt_neg (by first | exact d_5 | omega) hg
    have l_6 : (23 : Int32).toInt = 23 := rfl
    refine ⟨fun c_7 => ?_, fun c_7 => ?_⟩
    · have d_8 := iLt c_7
      replace hg := gt_pos (by first | exact d_8 | omega) hg
      have l_9 : (0 : Int32).toInt = 0 := rfl
      exact (hp _ (Or.inl rfl) (by clear hg; intro _; omega) hg.symm)
    · have d_10 := iNlt c_7
      replace hg := gt_neg (by first | exact d_10 | omega) hg
      unfold fReform_isAsked_11
      replace hg := (eReform_isAsked_11).symm.trans hg
      have l_11 : (1 : Int32).toInt = 1 := rfl
      exact (hp _ (Or.inr rfl) (by clear hg; intro _; omega) hg.symm)
noncomputable def gReform_mayAsk_60 (o : Nat) (J : gJ) (L : gL) (x1 : Int) : Int := gLet (J o 8) (fun (v_1 : Int) => (if v_1 = 0 then 1 else 0))
theorem eReform_mayAsk_60 {o : Nat} {J : gJ} {L : gL} {x1 : Int} : gReform_mayAsk_60 o J L x1 = gLet (J o 8) (fun (v_1 : Int) => (if v_1 = 0 then 1 else 0)) := rfl
noncomputable def gReform_mayAsk_89 (o : Nat) (J : gJ) (L : gL) (x1 : Int) : Int := 1
theorem eReform_mayAsk_89 {o : Nat} {J : gJ} {L : gL} {x1 : Int} : gReform_mayAsk_89 o J L x1 = 1 := rfl
noncomputable def gReform_mayAsk_95 (o : Nat) (J : gJ) (L : gL) (x1 : Int) : Int := gLet (J o 8) (fun (v_1 : Int) => (if v_1 < 6 then 0 else 1))
theorem eReform_mayAsk_95 {o : Nat} {J : gJ} {L : gL} {x1 : Int} : gReform_mayAsk_95 o J L x1 = gLet (J o 8) (fun (v_1 : Int) => (if v_1 < 6 then 0 else 1)) := rfl
noncomputable def gReform_mayAsk_0 (o : Nat) (J : gJ) (L : gL) (x1 : Int) : Int := (if x1 = 4 then (gReform_mayAsk_60 o J L x1) else (if x1 = 25 then (gReform_mayAsk_60 o J L x1) else (if x1 = 26 then gLet (J o 8) (fun (v_1 : Int) => (if v_1 = 0 then (gReform_mayAsk_89 o J L x1) else gLet (J o 8) (fun (v_2 : Int) => (if v_2 < 6 then 0 else (gReform_mayAsk_89 o J L x1))))) else (if x1 = 28 then (gReform_mayAsk_95 o J L x1) else (if x1 = 29 then (gReform_mayAsk_95 o J L x1) else (if x1 = 30 then (gReform_mayAsk_95 o J L x1) else 1))))))
theorem eReform_mayAsk_0 {o : Nat} {J : gJ} {L : gL} {x1 : Int} : gReform_mayAsk_0 o J L x1 = (if x1 = 4 then (gReform_mayAsk_60 o J L x1) else (if x1 = 25 then (gReform_mayAsk_60 o J L x1) else (if x1 = 26 then gLet (J o 8) (fun (v_1 : Int) => (if v_1 = 0 then (gReform_mayAsk_89 o J L x1) else gLet (J o 8) (fun (v_2 : Int) => (if v_2 < 6 then 0 else (gReform_mayAsk_89 o J L x1))))) else (if x1 = 28 then (gReform_mayAsk_95 o J L x1) else (if x1 = 29 then (gReform_mayAsk_95 o J L x1) else (if x1 = 30 then (gReform_mayAsk_95 o J L x1) else 1)))))) := rfl
set_option maxHeartbeats 4000000 in
set_option maxRecDepth 20000 in
theorem y_Reform_mayAskg {D : va_G} {cA : FieldType → ClassId} {b : Nat} {E : State → Prop} {R : qRg} {o n : Nat} {sh : Nat → qC} {Rf : Nat → Nat → Option Nat} {I0 : Nat → Nat → Int32} {L0 : Nat → Nat → Int64} {post : Option Value → qS → Prop} {p1 : Int32} (hok : q_ok (qGG D cA b E)) (hw : WfReform (qGG D cA b E) n sh Rf o) (ra : RAReform R o) (hR : RI R I0) (hp : ∀ (r : Int32) , (Bz r) → (gReform_mayAsk_0 o (tI I0) L0 (p1).toInt = r.toInt) → post (some (.int r)) (n, sh, Rf, I0, L0)) : Ev (qGG D cA b E) mReform_mayAsk 0 (0, 0) 0 (lv_args 0 [.ref o, .int p1]) [] (n, sh, Rf, I0, L0) post := by
  refine sReform_mayAsk_0 o n sh Rf I0 L0 post p1 hok hw ?_
  unfold fReform_mayAsk_0
  have hg : gReform_mayAsk_0 o (tI I0) L0 (p1).toInt = gReform_mayAsk_0 o (tI I0) L0 (p1).toInt := rfl
  replace hg := (eReform_mayAsk_0).symm.trans hg
  have l_2 : (4 : Int32).toInt = 4 := rfl
  refine ⟨fun c_1 => ?_, fun c_1 => ?_⟩
  · have d_3 := iEq c_1
    replace hg := gt_pos (by first | exact d_3 | omega) hg
    unfold fReform_mayAsk_60
    replace hg := (eReform_mayAsk_60).symm.trans hg
    have g_4 : (-1 : Int) ≤ (I0 o 8).toInt ∧ (I0 o 8).toInt ≤ 10 := hR.at0 ra 8 (by decide)
    replace hg := gt_let (y := (I0 o 8).toInt) rfl hg
    have l_5 : (0 : Int32).toInt = 0 := rfl
    refine ⟨fun c_6 => ?_, fun c_6 => ?_⟩
    · have d_7 := iNe c_6
      replace hg := gt_neg (by first | exact d_7 | omega) hg
      exact (hp _ (Or.inl rfl) hg.symm)
    · have d_8 := iEq c_6
      replace hg := gt_pos (by first | exact d_8 | omega) hg
      have l_9 : (1 : Int32).toInt = 1 := rfl
      exact (hp _ (Or.inr rfl) hg.symm)
  have d_10 := iNe c_1
  replace hg := gt_neg (by first | exact d_10 | omega) hg
  have l_12 : (25 : Int32).toInt = 25 := rfl
  refine ⟨fun c_11 => ?_, fun c_11 => ?_⟩
  · have d_13 := iEq c_11
    replace hg := gt_pos (by first | exact d_13 | omega) hg
    unfold fReform_mayAsk_60
    replace hg := (eReform_mayAsk_60).symm.trans hg
    have g_14 : (-1 : Int) ≤ (I0 o 8).toInt ∧ (I0 o 8).toInt ≤ 10 := hR.at0 ra 8 (by decide)
    replace hg := gt_let (y := (I0 o 8).toInt) rfl hg
    have l_15 : (0 : Int32).toInt = 0 := rfl
    refine ⟨fun c_16 => ?_, fun c_16 => ?_⟩
    · have d_17 := iNe c_16
      replace hg := gt_neg (by first | exact d_17 | omega) hg
      exact (hp _ (Or.inl rfl) hg.symm)
    · have d_18 := iEq c_16
      replace hg := gt_pos (by first | exact d_18 | omega) hg
      have l_19 : (1 : Int32).toInt = 1 := rfl
      exact (hp _ (Or.inr rfl) hg.symm)
  have d_20 := iNe c_11
  replace hg := gt_neg (by first | exact d_20 | omega) hg
  have l_22 : (26 : Int32).toInt = 26 := rfl
  refine ⟨fun c_21 => ?_, fun c_21 => ?_⟩
  · have d_23 := iEq c_21
    replace hg := gt_pos (by first | exact d_23 | omega) hg
    have g_24 : (-1 : Int) ≤ (I0 o 8).toInt ∧ (I0 o 8).toInt ≤ 10 := hR.at0 ra 8 (by decide)
    replace hg := gt_let (y := (I0 o 8).toInt) rfl hg
    have l_25 : (0 : Int32).toInt = 0 := rfl
    refine ⟨fun c_26 => ?_, fun c_26 => ?_⟩
    · have d_27 := iEq c_26
      replace hg := gt_pos (by first | exact d_27 | omega) hg
      unfold fReform_mayAsk_89
      replace hg := (eReform_mayAsk_89).symm.trans hg
      have l_28 : (1 : Int32).toInt = 1 := rfl
      exact (hp _ (Or.inr rfl) hg.symm)
    · have d_29 := iNe c_26
      replace hg := gt_neg (by first | exact d_29 | omega) hg
      have g_30 : (-1 : Int) ≤ (I0 o 8).toInt ∧ (I0 o 8).toInt ≤ 10 := hR.at0 ra 8 (by decide)
      replace hg := gt_let (y := (I0 o 8).toInt) rfl hg
      have l_31 : (6 : Int32).toInt = 6 := rfl
      refine ⟨fun c_32 => ?_, fun c_32 => ?_⟩
      · have d_33 := iLt c_32
        replace hg := gt_pos (by first | exact d_33 | omega) hg
        exact (hp _ (Or.inl rfl) hg.symm)
      · have d_34 := iNlt c_32
        replace hg := gt_neg (by first | exact d_34 | omega) hg
        unfold fReform_mayAsk_89
        replace hg := (eReform_mayAsk_89).symm.trans hg
        have l_35 : (1 : Int32).toInt = 1 := rfl
        exact (hp _ (Or.inr rfl) hg.symm)
  have d_36 := iNe c_21
  replace hg := gt_neg (by first | exact d_36 | omega) hg
  have l_38 : (28 : Int32).toInt = 28 := rfl
  refine ⟨fun c_37 => ?_, fun c_37 => ?_⟩
  · have d_39 := iEq c_37
    replace hg := gt_pos (by first | exact d_39 | omega) hg
    unfold fReform_mayAsk_95
    replace hg := (eReform_mayAsk_95).symm.trans hg
    have g_40 : (-1 : Int) ≤ (I0 o 8).toInt ∧ (I0 o 8).toInt ≤ 10 := hR.at0 ra 8 (by decide)
    replace hg := gt_let (y := (I0 o 8).toInt) rfl hg
    have l_41 : (6 : Int32).toInt = 6 := rfl
    refine ⟨fun c_42 => ?_, fun c_42 => ?_⟩
    · have d_43 := iLt c_42
      replace hg := gt_pos (by first | exact d_43 | omega) hg
      have l_44 : (0 : Int32).toInt = 0 := rfl
      exact (hp _ (Or.inl rfl) hg.symm)
    · have d_45 := iNlt c_42
      replace hg := gt_neg (by first | exact d_45 | omega) hg
      have l_46 : (1 : Int32).toInt = 1 := rfl
      exact (hp _ (Or.inr rfl) hg.symm)
  have d_47 := iNe c_37
  replace hg := gt_neg (by first | exact d_47 | omega) hg
  have l_49 : (29 : Int32).toInt = 29 := rfl
  refine ⟨fun c_48 => ?_, fun c_48 => ?_⟩
  · have d_50 := iEq c_48
    replace hg := gt_pos (by first | exact d_50 | omega) hg
    unfold fReform_mayAsk_95
    replace hg := (eReform_mayAsk_95).symm.trans hg
    have g_51 : (-1 : Int) ≤ (I0 o 8).toInt ∧ (I0 o 8).toInt ≤ 10 := hR.at0 ra 8 (by decide)
    replace hg := gt_let (y := (I0 o 8).toInt) rfl hg
    have l_52 : (6 : Int32).toInt = 6 := rfl
    refine ⟨fun c_53 => ?_, fun c_53 => ?_⟩
    · have d_54 := iLt c_53
      replace hg := gt_pos (by first | exact d_54 | omega) hg
      have l_55 : (0 : Int32).toInt = 0 := rfl
      exact (hp _ (Or.inl rfl) hg.symm)
    · have d_56 := iNlt c_53
      replace hg := gt_neg (by first | exact d_56 | omega) hg
      have l_57 : (1 : Int32).toInt = 1 := rfl
      exact (hp _ (Or.inr rfl) hg.symm)
  have d_58 := iNe c_48
  replace hg := gt_neg (by first | exact d_58 | omega) hg
  have l_60 : (30 : Int32).toInt = 30 := rfl
  refine ⟨fun c_59 => ?_, fun c_59 => ?_⟩
  · have d_61 := iEq c_59
    replace hg := gt_pos (by first | exact d_61 | omega) hg
    unfold fReform_mayAsk_95
    replace hg := (eReform_mayAsk_95).symm.trans hg
    have g_62 : (-1 : Int) ≤ (I0 o 8).toInt ∧ (I0 o 8).toInt ≤ 10 := hR.at0 ra 8 (by decide)
    replace hg := gt_let (y := (I0 o 8).toInt) rfl hg
    have l_63 : (6 : Int32).toInt = 6 := rfl
    refine ⟨fun c_64 => ?_, fun c_64 => ?_⟩
    · have d_65 := iLt c_64
      replace hg := gt_pos (by first | exact d_65 | omega) hg
      have l_66 : (0 : Int32).toInt = 0 := rfl
      exact (hp _ (Or.inl rfl) hg.symm)
    · have d_67 := iNlt c_64
      replace hg := gt_neg (by first | exact d_67 | omega) hg
      have l_68 : (1 : Int32).toInt = 1 := rfl
      exact (hp _ (Or.inr rfl) hg.symm)
  have d_69 := iNe c_59
  replace hg := gt_neg (by first | exact d_69 | omega) hg
  have l_70 : (1 : Int32).toInt = 1 := rfl
  exact (hp _ (Or.inr rfl) hg.symm)
noncomputable def gReform_freeSlot_0 (o x1 : Nat) (J : gJ) (L : gL) : Int := gLet (gTape_kind_0 x1 J L) (fun (r_1 : Int) => (if r_1 = 1 then gLet (gTape_value_0 x1 J L) (fun (r_2 : Int) => (if r_2 < 14 then (-1) else gLet (gTape_value_0 x1 J L) (fun (r_3 : Int) => (if r_3 ≤ 19 then gLet (gTape_value_0 x1 J L) (fun (r_4 : Int) => (if r_4 = 15 then gLet (J o 6) (fun (v_8 : Int) => (if 5 ≤ v_8 then (-1) else gLet (J o 6) (fun (v_9 : Int) => gLet (6 + v_9) (fun (v_10 : Int) => v_10)))) else gLet (gTape_value_0 x1 J L) (fun (r_5 : Int) => gLet (r_5 - 14) (fun (v_6 : Int) => gLet (J (o + 3) (Int.toNat v_6)) (fun (v_7 : Int) => (if v_7 = 0 then v_6 else (-1))))))) else (-1))))) else (-1)))
theorem eReform_freeSlot_0 {o x1 : Nat} {J : gJ} {L : gL} : gReform_freeSlot_0 o x1 J L  = gLet (gTape_kind_0 x1 J L) (fun (r_1 : Int) => (if r_1 = 1 then gLet (gTape_value_0 x1 J L) (fun (r_2 : Int) => (if r_2 < 14 then (-1) else gLet (gTape_value_0 x1 J L) (fun (r_3 : Int) => (if r_3 ≤ 19 then gLet (gTape_value_0 x1 J L) (fun (r_4 : Int) => (if r_4 = 15 then gLet (J o 6) (fun (v_8 : Int) => (if 5 ≤ v_8 then (-1) else gLet (J o 6) (fun (v_9 : Int) => gLet (6 + v_9) (fun (v_10 : Int) => v_10)))) else gLet (gTape_value_0 x1 J L) (fun (r_5 : Int) => gLet (r_5 - 14) (fun (v_6 : Int) => gLet (J (o + 3) (Int.toNat v_6)) (fun (v_7 : Int) => (if v_7 = 0 then v_6 else (-1))))))) else (-1))))) else (-1))) := rfl
set_option maxHeartbeats 4000000 in
set_option maxRecDepth 20000 in
theorem y_Reform_freeSlotg {D : va_G} {cA : FieldType → ClassId} {b : Nat} {E : State → Prop} {R : qRg} {o n : Nat} {sh : Nat → qC} {Rf : Nat → Nat → Option Nat} {I0 : Nat → Nat → Int32} {L0 : Nat → Nat → Int64} {post : Option Value → qS → Prop} {x1 : Nat} (hok : q_ok (qGG D cA b E)) (hw : WfReform (qGG D cA b E) n sh Rf o) (ra : RAReform R o) (hw1 : WfTape (qGG D cA b E) n sh Rf x1) (ra1 : RATape R x1) (hR : RI R I0) (hp : ∀ (r : Int32) , (((-1 : Int) ≤ r.toInt ∧ r.toInt ≤ 10)) → (r.toInt ≤ 5 ∨ (I0 o 6).toInt ≤ 4) → (gReform_freeSlot_0 o x1 (tI I0) L0 = r.toInt) → post (some (.int r)) (n, sh, Rf, I0, L0)) : Ev (qGG D cA b E) mReform_freeSlot 1 (0, 0) 0 (lv_args 0 [.ref o, .ref x1]) [] (n, sh, Rf, I0, L0) post := by
  have g_1 : (0 : Int) ≤ (I0 o 6).toInt ∧ (I0 o 6).toInt ≤ 5 := hR.at0 ra 6 (by decide)
  refine sReform_freeSlot_0 o n sh Rf I0 L0 post x1 hok hw hw1 ?_
  unfold fReform_freeSlot_0
  have hg : gReform_freeSlot_0 o x1 (tI I0) L0 = gReform_freeSlot_0 o x1 (tI I0) L0 := rfl
  replace hg := (eReform_freeSlot_0).symm.trans hg
  refine y_Tape_kindg hok hw1 ra1 hR (fun r_2 u_3 gn_4 => ⟨r_2, I0, L0, rfl, rfl, ?_⟩)
  replace hg := gt_let gn_4 hg
  clear gn_4
  have l_5 : (1 : Int32).toInt = 1 := rfl
  refine ⟨fun c_6 => ?_, fun c_6 => ?_⟩
  · have d_7 := iNe c_6
    replace hg := gt_neg (by first | exact d_7 | omega) hg
    have l_8 : (-1 : Int32).toInt = -1 := rfl
    exact (hp _ (by first | omega | (intro h; omega) | exact Or.inl rfl | exact Or.inr rfl) (by first | omega | (intro h; omega) | exact Or.inl rfl | exact Or.inr rfl) hg.symm)
  · have d_9 := iEq c_6
    replace hg := gt_pos (by first | exact d_9 | omega) hg
    refine y_Tape_valueg hok hw1 ra1 hR (fun r_10 u_11 gn_12 => ⟨r_10, I0, L0, rfl, rfl, ?_⟩)
    replace hg := gt_let gn_12 hg
    clear gn_12
    have l_13 : (14 : Int32).toInt = 14 := rfl
    refine ⟨fun c_14 => ?_, fun c_14 => ?_⟩
    · have d_15 := iLt c_14
      replace hg := gt_pos (by first | exact d_15 | omega) hg
      have l_16 : (-1 : Int32).toInt = -1 := rfl
      exact (hp _ (by first | omega | (intro h; omega) | exact Or.inl rfl | exact Or.inr rfl) (by first | omega | (intro h; omega) | exact Or.inl rfl | exact Or.inr rfl) hg.symm)
    · have d_17 := iNlt c_14
      replace hg := gt_neg (by first | exact d_17 | omega) hg
      refine y_Tape_valueg hok hw1 ra1 hR (fun r_18 u_19 gn_20 => ⟨r_18, I0, L0, rfl, rfl, ?_⟩)
      replace hg := gt_let gn_20 hg
      clear gn_20
      have j_21 := iEq (u_19.trans u_11.symm)
      have l_22 : (19 : Int32).toInt = 19 := rfl
      refine ⟨fun c_23 => ?_, fun c_23 => ?_⟩
      · have d_24 := iLe c_23
        replace hg := gt_pos (by first | exact d_24 | omega) hg
        refine y_Tape_valueg hok hw1 ra1 hR (fun r_25 u_26 gn_27 => ⟨r_25, I0, L0, rfl, rfl, ?_⟩)
        replace hg := gt_let gn_27 hg
        clear gn_27
        have j_28 := iEq (u_26.trans u_19.symm)
        have l_29 : (15 : Int32).toInt = 15 := rfl
        refine ⟨fun c_30 => ?_, fun c_30 => ?_⟩
        · have d_31 := iNe c_30
          replace hg := gt_neg (by first | exact d_31 | omega) hg
          refine y_Tape_valueg hok hw1 ra1 hR (fun r_32 u_33 gn_34 => ⟨r_32, I0, L0, rfl, rfl, ?_⟩)
          replace hg := gt_let gn_34 hg
          clear gn_34
          have j_35 := iEq (u_33.trans u_26.symm)
          have v_36 : (14 : Int) ≤ r_32.toInt ∧ r_32.toInt ≤ 19 := by omega
          have a_37 : (r_32 - 14).toInt = r_32.toInt - (14 : Int32).toInt := tSub (by omega) (by omega)
          replace hg := gt_let (y := ((r_32 - 14) : Int32).toInt) (by omega) hg
          refine ⟨tIn (by omega) (by omega), ?_⟩
          have g_38 : (0 : Int) ≤ (I0 (o + 3) ((r_32 - 14) : Int32).toNatClampNeg).toInt ∧ (I0 (o + 3) ((r_32 - 14) : Int32).toNatClampNeg).toInt ≤ 700 := hR.at ra 3 _ (by decide)
          replace hg := gt_let (y := (I0 (o + 3) ((r_32 - 14) : Int32).toNatClampNeg).toInt) rfl hg
          have l_39 : (0 : Int32).toInt = 0 := rfl
          refine ⟨fun c_40 => ?_, fun c_40 => ?_⟩
          · have d_41 := iNe c_40
            replace hg := gt_neg (by first | exact d_41 | omega) hg
            have l_42 : (-1 : Int32).toInt = -1 := rfl
            exact (hp _ (by first | omega | (intro h; omega) | exact Or.inl rfl | exact Or.inr rfl) (by first | omega | (intro h; omega) | exact Or.inl rfl | exact Or.inr rfl) hg.symm)
          · have d_43 := iEq c_40
            replace hg := gt_pos (by first | exact d_43 | omega) hg
            exact (hp _ (by first | omega | (intro h; omega) | exact Or.inl rfl | exact Or.inr rfl) (by first | omega | (intro h; omega) | exact Or.inl rfl | exact Or.inr rfl) hg.symm)
        · have d_44 := iEq c_30
          replace hg := gt_pos (by first | exact d_44 | omega) hg
          have g_45 : (0 : Int) ≤ (I0 o 6).toInt ∧ (I0 o 6).toInt ≤ 5 := hR.at0 ra 6 (by decide)
          replace hg := gt_let (y := (I0 o 6).toInt) rfl hg
          have l_46 : (5 : Int32).toInt = 5 := rfl
          refine ⟨fun c_47 => ?_, fun c_47 => ?_⟩
          · have d_48 := iLe c_47
            replace hg := gt_pos (by first | exact d_48 | omega) hg
            have l_49 : (-1 : Int32).toInt = -1 := rfl
            exact (hp _ (by first | omega | (intro h; omega) | exact Or.inl rfl | exact Or.inr rfl) (by first | omega | (intro h; omega) | exact Or.inl rfl | exact Or.inr rfl) hg.symm)
          · have d_50 := iNle c_47
            replace hg := gt_neg (by first | exact d_50 | omega) hg
            have g_51 : (0 : Int) ≤ (I0 o 6).toInt ∧ (I0 o 6).toInt ≤ 5 := hR.at0 ra 6 (by decide)
            replace hg := gt_let (y := (I0 o 6).toInt) rfl hg
            have l_52 : (6 : Int32).toInt = 6 := rfl
            have a_53 : (6 + (I0 o 6)).toInt = (6 : Int32).toInt + (I0 o 6).toInt := tAdd (by omega) (by omega)
            replace hg := gt_let (y := ((6 + (I0 o 6)) : Int32).toInt) (by omega) hg
            exact (hp _ (by first | omega | (intro h; omega) | exact Or.inl rfl | exact Or.inr rfl) (by first | omega | (intro h; omega) | exact Or.inl rfl | exact Or.inr rfl) hg.symm)
      · have d_54 := iNle c_23
        replace hg := gt_neg (by first | exact d_54 | omega) hg
        have l_55 : (-1 : Int32).toInt = -1 := rfl
        exact (hp _ (by first | omega | (intro h; omega) | exact Or.inl rfl | exact Or.inr rfl) (by first | omega | (intro h; omega) | exact Or.inl rfl | exact Or.inr rfl) hg.symm)
noncomputable def gReform_readEither_8 (k : Nat) (RReform_readBoth : gJ → gL → Int → Int × gJ × gL) (o x1 : Nat) (J : gJ) (L : gL) (x2 : Int) (x3 : Int) : Int × gJ × gL := match k with
  | 0 => default
  | k + 1 => (if 700 ≤ x3 then (0, J, L) else gLet (gTape_isWord_0 x1 J L 21) (fun (r_1 : Int) => (if r_1 = 0 then (0, J, L) else gB3 (gTape_step_0 x1 J L) (fun r_2 J_3 L_4 => gB3 (RReform_readBoth J_3 L_4 x2) (fun r_5 J_6 L_7 => gB3 (gReform_emit_0 o J_6 L_7 21) (fun r_8 J_9 L_10 => gLet (x3 + 1) (fun (v_11 : Int) => (gReform_readEither_8 k RReform_readBoth o x1 J_9 L_10 x2 v_11))))))))
theorem eReform_readEither_8 {k : Nat} {RReform_readBoth : gJ → gL → Int → Int × gJ × gL} {o x1 : Nat} {J : gJ} {L : gL} {x2 : Int} {x3 : Int} : gReform_readEither_8 (k + 1) RReform_readBoth o x1 J L x2 x3 = (if 700 ≤ x3 then (0, J, L) else gLet (gTape_isWord_0 x1 J L 21) (fun (r_1 : Int) => (if r_1 = 0 then (0, J, L) else gB3 (gTape_step_0 x1 J L) (fun r_2 J_3 L_4 => gB3 (RReform_readBoth J_3 L_4 x2) (fun r_5 J_6 L_7 => gB3 (gReform_emit_0 o J_6 L_7 21) (fun r_8 J_9 L_10 => gLet (x3 + 1) (fun (v_11 : Int) => (gReform_readEither_8 k RReform_readBoth o x1 J_9 L_10 x2 v_11)))))))) := rfl
noncomputable def gReform_readEither_0 (RReform_readBoth : gJ → gL → Int → Int × gJ × gL) (o x1 : Nat) (J : gJ) (L : gL) (x2 : Int) : Int × gJ × gL := gB3 (RReform_readBoth J L x2) (fun r_1 J_2 L_3 => (gReform_readEither_8 20000 RReform_readBoth o x1 J_2 L_3 x2 0))
theorem eReform_readEither_0 {RReform_readBoth : gJ → gL → Int → Int × gJ × gL} {o x1 : Nat} {J : gJ} {L : gL} {x2 : Int} : gReform_readEither_0 RReform_readBoth o x1 J L x2 = gB3 (RReform_readBoth J L x2) (fun r_1 J_2 L_3 => (gReform_readEither_8 20000 RReform_readBoth o x1 J_2 L_3 x2 0)) := rfl
set_option maxHeartbeats 4000000 in
set_option maxRecDepth 20000 in
theorem yReform_readEither_8g {D : va_G} {cA : FieldType → ClassId} {b : Nat} {E : State → Prop} {R : qRg} {o n : Nat} {sh : Nat → qC} {Rf : Nat → Nat → Option Nat} {I0 : Nat → Nat → Int32} {L0 : Nat → Nat → Int64} {post : Option Value → qS → Prop} {x1 : Nat} {p2 : Int32} (hok : q_ok (qGG D cA b E)) (hw : WfReform (qGG D cA b E) n sh Rf o) (ra : RAReform R o) (hw1 : WfTape (qGG D cA b E) n sh Rf x1) (ra1 : RATape R x1) {d : Nat} {lo : Int} {RReform_readBoth : gJ → gL → Int → Int × gJ × gL} (hd0 : 5 ≤ d) (cReform_readBoth : ∀ (J : Nat → Nat → Int32) (K : Nat → Nat → Int64) (post : Option Value → qS → Prop) (q : Int32), RI R J → TokOK J x1 → lo ≤ q.toInt → q.toInt ≤ 7 → (∀ I' L', RI R I' → Fm (fun c => (o ≤ c ∧ c < o + 5) ∨ c = x1) J I' → (I' o 6).toInt = (J o 6).toInt → (I' o 8).toInt = (J o 8).toInt → (RReform_readBoth (tI J) K q.toInt = (0, tI I', L')) → (FmL (fun c => False) K L') → post none (n, sh, Rf, I', L')) → Ev (qGG D cA b E) mReform_readBoth d (0, 0) 0 (lv_args 0 [.ref o, .ref x1, .int q]) [] (n, sh, Rf, J, K) post) (hs0 : o + 5 ≤ x1 ∨ x1 + 7 ≤ o) (hs1 : 0 ≤ lo) (hq0 : lo ≤ p2.toInt) (hq1 : p2.toInt ≤ 7) (hq2 : TokOK I0 x1) (hp : ∀ (I' : Nat → Nat → Int32) (L' : Nat → Nat → Int64), RI R I' → Fm (fun c => (o ≤ c ∧ c < o + 5) ∨ c = x1) I0 I' → ((I' o 6).toInt = (I0 o 6).toInt) → ((I' o 8).toInt = (I0 o 8).toInt) → (gReform_readEither_0 RReform_readBoth o x1 (tI I0) L0 (p2).toInt = (0, tI I', L')) → (FmL (fun c => False) L0 L') → post none (n, sh, Rf, I', L')) : ∀ (k : Nat) {x2 : Int32} {x3 : Int32} {I : Nat → Nat → Int32} {L : Nat → Nat → Int64}, RI R I → Fm (fun c => (o ≤ c ∧ c < o + 5) ∨ c = x1) I0 I → ((0 : Int) ≤ x3.toInt ∧ x3.toInt ≤ 700) → ((I o 6).toInt = (I0 o 6).toInt) → ((I o 8).toInt = (I0 o 8).toInt) → (x2 = p2) → (TokOK I x1) → (FmL (fun c => False) L0 L) → (gReform_readEither_8 k RReform_readBoth o x1 (tI I) L (x2).toInt (x3).toInt = gReform_readEither_0 RReform_readBoth o x1 (tI I0) L0 (p2).toInt) → (700 - x3.toInt).toNat < k → Ev (qGG D cA b E) mReform_readEither (d + 1) (0, 0) 8 [(0, .ref o), (1, .ref x1), (2, .int x2), (3, .int x3)] [] (n, sh, Rf, I, L) post := by
  intro k
  induction k with
  | zero =>
    intro x2 x3 I L hR hf hi0 hi1 hi2 hi3 hi4 hl hg hm
    exact absurd hm (Nat.not_lt_zero _)
  | succ k ih =>
    intro x2 x3 I L hR hf hi0 hi1 hi2 hi3 hi4 hl hg hm
    have hz0 := hi3.symm
    subst hz0
    have g_1 : (0 : Int) ≤ (I o 6).toInt ∧ (I o 6).toInt ≤ 5 := hR.at0 ra 6 (by decide)
    have g_2 : (-1 : Int) ≤ (I o 8).toInt ∧ (I o 8).toInt ≤ 10 := hR.at0 ra 8 (by decide)
    refine sReform_readEither_8 o n sh Rf I L post x1 p2 x3 d hok hw hw1 hd0 ?_
    unfold fReform_readEither_8
    replace hg := (eReform_readEither_8).symm.trans hg
    have l_3 : (700 : Int32).toInt = 700 := rfl
    refine ⟨fun c_4 => ?_, fun c_4 => ?_⟩
    · have d_5 := iLe c_4
      replace hg := gt_pos (by first | exact d_5 | omega) hg
      exact (hp _ _ hR hf (by first | omega | (intro h; omega) | exact Or.inl rfl | exact Or.inr rfl) (by first | omega | (intro h; omega) | exact Or.inl rfl | exact Or.inr rfl) hg.symm hl)
    · have d_6 := iNle c_4
      replace hg := gt_neg (by first | exact d_6 | omega) hg
      have l_7 : (21 : Int32).toInt = 21 := rfl
      refine y_Tape_isWordg hok hw1 ra1 hR (fun r_8 u_9 gn_10 => ⟨r_8, I, L, rfl, rfl, ?_⟩)
      replace hg := gt_let gn_10 hg
      clear gn_10
      have b_11 : 0 ≤ r_8.toInt ∧ r_8.toInt ≤ 1 := u_9.rg
      have l_12 : (0 : Int32).toInt = 0 := rfl
      refine ⟨fun c_13 => ?_, fun c_13 => ?_⟩
      · have d_14 := iEq c_13
        replace hg := gt_pos (by first | exact d_14 | omega) hg
        exact (hp _ _ hR hf (by first | omega | (intro h; omega) | exact Or.inl rfl | exact Or.inr rfl) (by first | omega | (intro h; omega) | exact Or.inl rfl | exact Or.inr rfl) hg.symm hl)
      · have d_15 := iNe c_13
        replace hg := gt_neg (by first | exact d_15 | omega) hg
        refine y_Tape_stepg hok hw1 ra1 hR (fun I_20 L_21 hR_22 fr_23 u_17 gn_18 ln_19 => ⟨I_20, L_21, rfl, rfl, ?_⟩)
        replace hl := hl.call ln_19 (fun c hc => by first | exact hc | exact False.elim hc | (dsimp only at hc ⊢; omega) | omega)
        replace hg := gt_b3 gn_18 hg
        clear gn_18
        have hf_24 : Fm (fun c => (o ≤ c ∧ c < o + 5) ∨ c = x1) I0 I_20 := hf.call fr_23 (fun c hc => by first | exact hc | (dsimp only at hc ⊢; omega) | omega)
        have t_25 : (I_20 o 6).toInt = (I o 6).toInt := by rw [fr_23 o (by first | omega | (dsimp only; omega))]
        have t_26 : (I_20 o 8).toInt = (I o 8).toInt := by rw [fr_23 o (by first | omega | (dsimp only; omega))]
        have k_27 : TokOK I_20 x1 := hi4.fr (fr_23 _ (by first | omega | (dsimp only; omega))) (fr_23 _ (by first | omega | (dsimp only; omega)))
        refine cReform_readBoth I_20 L_21 _ _ hR_22 k_27 (by omega) (by omega) (fun I_28 L_29 hR_30 fr_31 k6_35 k8_36 eg_33 lz_34 => ⟨I_28, L_29, rfl, rfl, ?_⟩)
        replace hg := gt_b3 eg_33 hg
        clear eg_33
        replace hl := hl.call lz_34 (fun c hc => False.elim hc)
        have hf_32 : Fm (fun c => (o ≤ c ∧ c < o + 5) ∨ c = x1) I0 I_28 := hf_24.call fr_31 (fun c hc => hc)
        have k_37 : TokOK I_28 x1 := k_27.fr (fr_31 _ (by first | omega | (dsimp only; omega))) (fr_31 _ (by first | omega | (dsimp only; omega)))
        refine y_Reform_emitg hok hw ra (by first | omega | (intro h; omega) | exact Or.inl rfl | exact Or.inr rfl) hR_30 (fun I_43 L_44 hR_45 fr_46 u_39 u_40 gn_41 ln_42 => ⟨I_43, L_44, rfl, rfl, ?_⟩)
        replace hl := hl.call ln_42 (fun c hc => by first | exact hc | exact False.elim hc | (dsimp only at hc ⊢; omega) | omega)
        replace hg := gt_b3 gn_41 hg
        clear gn_41
        have hf_47 : Fm (fun c => (o ≤ c ∧ c < o + 5) ∨ c = x1) I0 I_43 := hf_32.call fr_46 (fun c hc => by first | exact hc | (dsimp only at hc ⊢; omega) | omega)
        have g_48 : (0 : Int) ≤ (I_43 o 6).toInt ∧ (I_43 o 6).toInt ≤ 5 := hR_45.at0 ra 6 (by decide)
        have g_49 : (-1 : Int) ≤ (I_43 o 8).toInt ∧ (I_43 o 8).toInt ≤ 10 := hR_45.at0 ra 8 (by decide)
        have k_50 : TokOK I_43 x1 := k_37.fr (fr_46 _ (by first | omega | (dsimp only; omega))) (fr_46 _ (by first | omega | (dsimp only; omega)))
        have a_52 : (x3 + Int32.ofInt 1).toInt = x3.toInt + (1) := tIc (by omega) (by omega) (by decide) (by decide)
        generalize ez_51 : (x3 + Int32.ofInt 1) = z_51 at a_52 ⊢
        replace hg := gt_let (y := z_51.toInt) (by omega) hg
        exact ih hR_45 hf_47 (by first | omega | (intro h; omega) | exact Or.inl rfl | exact Or.inr rfl) (by first | omega | (intro h; omega) | exact Or.inl rfl | exact Or.inr rfl) (by first | omega | (intro h; omega) | exact Or.inl rfl | exact Or.inr rfl) rfl k_50 hl hg (by omega)
set_option maxHeartbeats 4000000 in
set_option maxRecDepth 20000 in
theorem y_Reform_readEitherg {D : va_G} {cA : FieldType → ClassId} {b : Nat} {E : State → Prop} {R : qRg} {o n : Nat} {sh : Nat → qC} {Rf : Nat → Nat → Option Nat} {I0 : Nat → Nat → Int32} {L0 : Nat → Nat → Int64} {post : Option Value → qS → Prop} {x1 : Nat} {p2 : Int32} (hok : q_ok (qGG D cA b E)) (hw : WfReform (qGG D cA b E) n sh Rf o) (ra : RAReform R o) (hw1 : WfTape (qGG D cA b E) n sh Rf x1) (ra1 : RATape R x1) {d : Nat} {lo : Int} {RReform_readBoth : gJ → gL → Int → Int × gJ × gL} (hd0 : 5 ≤ d) (cReform_readBoth : ∀ (J : Nat → Nat → Int32) (K : Nat → Nat → Int64) (post : Option Value → qS → Prop) (q : Int32), RI R J → TokOK J x1 → lo ≤ q.toInt → q.toInt ≤ 7 → (∀ I' L', RI R I' → Fm (fun c => (o ≤ c ∧ c < o + 5) ∨ c = x1) J I' → (I' o 6).toInt = (J o 6).toInt → (I' o 8).toInt = (J o 8).toInt → (RReform_readBoth (tI J) K q.toInt = (0, tI I', L')) → (FmL (fun c => False) K L') → post none (n, sh, Rf, I', L')) → Ev (qGG D cA b E) mReform_readBoth d (0, 0) 0 (lv_args 0 [.ref o, .ref x1, .int q]) [] (n, sh, Rf, J, K) post) (hs0 : o + 5 ≤ x1 ∨ x1 + 7 ≤ o) (hs1 : 0 ≤ lo) (hq0 : lo ≤ p2.toInt) (hq1 : p2.toInt ≤ 7) (hq2 : TokOK I0 x1) (hR : RI R I0) (hp : ∀ (I' : Nat → Nat → Int32) (L' : Nat → Nat → Int64), RI R I' → Fm (fun c => (o ≤ c ∧ c < o + 5) ∨ c = x1) I0 I' → ((I' o 6).toInt = (I0 o 6).toInt) → ((I' o 8).toInt = (I0 o 8).toInt) → (gReform_readEither_0 RReform_readBoth o x1 (tI I0) L0 (p2).toInt = (0, tI I', L')) → (FmL (fun c => False) L0 L') → post none (n, sh, Rf, I', L')) : Ev (qGG D cA b E) mReform_readEither (d + 1) (0, 0) 0 (lv_args 0 [.ref o, .ref x1, .int p2]) [] (n, sh, Rf, I0, L0) post := by
  have hf : Fm (fun c => (o ≤ c ∧ c < o + 5) ∨ c = x1) I0 I0 := Fm.rf
  have g_53 : (0 : Int) ≤ (I0 o 6).toInt ∧ (I0 o 6).toInt ≤ 5 := hR.at0 ra 6 (by decide)
  have g_54 : (-1 : Int) ≤ (I0 o 8).toInt ∧ (I0 o 8).toInt ≤ 10 := hR.at0 ra 8 (by decide)
  refine sReform_readEither_0 o n sh Rf I0 L0 post x1 p2 d hok hw hw1 hd0 ?_
  unfold fReform_readEither_0
  have hl : FmL (fun c => False) L0 L0 := FmL.rf
  have hg : gReform_readEither_0 RReform_readBoth o x1 (tI I0) L0 (p2).toInt = gReform_readEither_0 RReform_readBoth o x1 (tI I0) L0 (p2).toInt := rfl
  replace hg := (eReform_readEither_0).symm.trans hg
  refine cReform_readBoth I0 L0 _ _ hR hq2 (by omega) (by omega) (fun I_55 L_56 hR_57 fr_58 k6_62 k8_63 eg_60 lz_61 => ⟨I_55, L_56, rfl, rfl, ?_⟩)
  replace hg := gt_b3 eg_60 hg
  clear eg_60
  replace hl := hl.call lz_61 (fun c hc => False.elim hc)
  have hf_59 : Fm (fun c => (o ≤ c ∧ c < o + 5) ∨ c = x1) I0 I_55 := hf.call fr_58 (fun c hc => hc)
  have k_64 : TokOK I_55 x1 := hq2.fr (fr_58 _ (by first | omega | (dsimp only; omega))) (fr_58 _ (by first | omega | (dsimp only; omega)))
  have l_65 : (0 : Int32).toInt = 0 := rfl
  exact yReform_readEither_8g (I0 := I0) (L0 := L0) (p2 := p2) hok hw ra hw1 ra1 hd0 cReform_readBoth hs0 hs1 hq0 hq1 hq2 hp  20000 hR_57 hf_59 (by first | omega | (intro h; omega) | exact Or.inl rfl | exact Or.inr rfl) (by first | omega | (intro h; omega) | exact Or.inl rfl | exact Or.inr rfl) (by first | omega | (intro h; omega) | exact Or.inl rfl | exact Or.inr rfl) rfl k_64 hl hg (by omega)
noncomputable def gReform_readBoth_8 (k : Nat) (RReform_readOne : gJ → gL → Int → Int × gJ × gL) (o x1 : Nat) (J : gJ) (L : gL) (x2 : Int) (x3 : Int) : Int × gJ × gL := match k with
  | 0 => default
  | k + 1 => (if 700 ≤ x3 then (0, J, L) else gLet (gTape_isWord_0 x1 J L 20) (fun (r_1 : Int) => (if r_1 = 0 then (0, J, L) else gB3 (gTape_step_0 x1 J L) (fun r_2 J_3 L_4 => gB3 (RReform_readOne J_3 L_4 x2) (fun r_5 J_6 L_7 => gB3 (gReform_emit_0 o J_6 L_7 20) (fun r_8 J_9 L_10 => gLet (x3 + 1) (fun (v_11 : Int) => (gReform_readBoth_8 k RReform_readOne o x1 J_9 L_10 x2 v_11))))))))
theorem eReform_readBoth_8 {k : Nat} {RReform_readOne : gJ → gL → Int → Int × gJ × gL} {o x1 : Nat} {J : gJ} {L : gL} {x2 : Int} {x3 : Int} : gReform_readBoth_8 (k + 1) RReform_readOne o x1 J L x2 x3 = (if 700 ≤ x3 then (0, J, L) else gLet (gTape_isWord_0 x1 J L 20) (fun (r_1 : Int) => (if r_1 = 0 then (0, J, L) else gB3 (gTape_step_0 x1 J L) (fun r_2 J_3 L_4 => gB3 (RReform_readOne J_3 L_4 x2) (fun r_5 J_6 L_7 => gB3 (gReform_emit_0 o J_6 L_7 20) (fun r_8 J_9 L_10 => gLet (x3 + 1) (fun (v_11 : Int) => (gReform_readBoth_8 k RReform_readOne o x1 J_9 L_10 x2 v_11)))))))) := rfl
noncomputable def gReform_readBoth_0 (RReform_readOne : gJ → gL → Int → Int × gJ × gL) (o x1 : Nat) (J : gJ) (L : gL) (x2 : Int) : Int × gJ × gL := gB3 (RReform_readOne J L x2) (fun r_1 J_2 L_3 => (gReform_readBoth_8 20000 RReform_readOne o x1 J_2 L_3 x2 0))
theorem eReform_readBoth_0 {RReform_readOne : gJ → gL → Int → Int × gJ × gL} {o x1 : Nat} {J : gJ} {L : gL} {x2 : Int} : gReform_readBoth_0 RReform_readOne o x1 J L x2 = gB3 (RReform_readOne J L x2) (fun r_1 J_2 L_3 => (gReform_readBoth_8 20000 RReform_readOne o x1 J_2 L_3 x2 0)) := rfl
set_option maxHeartbeats 4000000 in
set_option maxRecDepth 20000 in
theorem yReform_readBoth_8g {D : va_G} {cA : FieldType → ClassId} {b : Nat} {E : State → Prop} {R : qRg} {o n : Nat} {sh : Nat → qC} {Rf : Nat → Nat → Option Nat} {I0 : Nat → Nat → Int32} {L0 : Nat → Nat → Int64} {post : Option Value → qS → Prop} {x1 : Nat} {p2 : Int32} (hok : q_ok (qGG D cA b E)) (hw : WfReform (qGG D cA b E) n sh Rf o) (ra : RAReform R o) (hw1 : WfTape (qGG D cA b E) n sh Rf x1) (ra1 : RATape R x1) {d : Nat} {lo : Int} {RReform_readOne : gJ → gL → Int → Int × gJ × gL} (hd0 : 5 ≤ d) (cReform_readOne : ∀ (J : Nat → Nat → Int32) (K : Nat → Nat → Int64) (post : Option Value → qS → Prop) (q : Int32), RI R J → TokOK J x1 → lo ≤ q.toInt → q.toInt ≤ 7 → (∀ I' L', RI R I' → Fm (fun c => (o ≤ c ∧ c < o + 5) ∨ c = x1) J I' → (I' o 6).toInt = (J o 6).toInt → (I' o 8).toInt = (J o 8).toInt → (RReform_readOne (tI J) K q.toInt = (0, tI I', L')) → (FmL (fun c => False) K L') → post none (n, sh, Rf, I', L')) → Ev (qGG D cA b E) mReform_readOne d (0, 0) 0 (lv_args 0 [.ref o, .ref x1, .int q]) [] (n, sh, Rf, J, K) post) (hs0 : o + 5 ≤ x1 ∨ x1 + 7 ≤ o) (hs1 : 0 ≤ lo) (hq0 : lo ≤ p2.toInt) (hq1 : p2.toInt ≤ 7) (hq2 : TokOK I0 x1) (hp : ∀ (I' : Nat → Nat → Int32) (L' : Nat → Nat → Int64), RI R I' → Fm (fun c => (o ≤ c ∧ c < o + 5) ∨ c = x1) I0 I' → ((I' o 6).toInt = (I0 o 6).toInt) → ((I' o 8).toInt = (I0 o 8).toInt) → (gReform_readBoth_0 RReform_readOne o x1 (tI I0) L0 (p2).toInt = (0, tI I', L')) → (FmL (fun c => False) L0 L') → post none (n, sh, Rf, I', L')) : ∀ (k : Nat) {x2 : Int32} {x3 : Int32} {I : Nat → Nat → Int32} {L : Nat → Nat → Int64}, RI R I → Fm (fun c => (o ≤ c ∧ c < o + 5) ∨ c = x1) I0 I → ((0 : Int) ≤ x3.toInt ∧ x3.toInt ≤ 700) → ((I o 6).toInt = (I0 o 6).toInt) → ((I o 8).toInt = (I0 o 8).toInt) → (x2 = p2) → (TokOK I x1) → (FmL (fun c => False) L0 L) → (gReform_readBoth_8 k RReform_readOne o x1 (tI I) L (x2).toInt (x3).toInt = gReform_readBoth_0 RReform_readOne o x1 (tI I0) L0 (p2).toInt) → (700 - x3.toInt).toNat < k → Ev (qGG D cA b E) mReform_readBoth (d + 1) (0, 0) 8 [(0, .ref o), (1, .ref x1), (2, .int x2), (3, .int x3)] [] (n, sh, Rf, I, L) post := by
  intro k
  induction k with
  | zero =>
    intro x2 x3 I L hR hf hi0 hi1 hi2 hi3 hi4 hl hg hm
    exact absurd hm (Nat.not_lt_zero _)
  | succ k ih =>
    intro x2 x3 I L hR hf hi0 hi1 hi2 hi3 hi4 hl hg hm
    have hz0 := hi3.symm
    subst hz0
    have g_1 : (0 : Int) ≤ (I o 6).toInt ∧ (I o 6).toInt ≤ 5 := hR.at0 ra 6 (by decide)
    have g_2 : (-1 : Int) ≤ (I o 8).toInt ∧ (I o 8).toInt ≤ 10 := hR.at0 ra 8 (by decide)
    refine sReform_readBoth_8 o n sh Rf I L post x1 p2 x3 d hok hw hw1 hd0 ?_
    unfold fReform_readBoth_8
    replace hg := (eReform_readBoth_8).symm.trans hg
    have l_3 : (700 : Int32).toInt = 700 := rfl
    refine ⟨fun c_4 => ?_, fun c_4 => ?_⟩
    · have d_5 := iLe c_4
      replace hg := gt_pos (by first | exact d_5 | omega) hg
      exact (hp _ _ hR hf (by first | omega | (intro h; omega) | exact Or.inl rfl | exact Or.inr rfl) (by first | omega | (intro h; omega) | exact Or.inl rfl | exact Or.inr rfl) hg.symm hl)
    · have d_6 := iNle c_4
      replace hg := gt_neg (by first | exact d_6 | omega) hg
      have l_7 : (20 : Int32).toInt = 20 := rfl
      refine y_Tape_isWordg hok hw1 ra1 hR (fun r_8 u_9 gn_10 => ⟨r_8, I, L, rfl, rfl, ?_⟩)
      replace hg := gt_let gn_10 hg
      clear gn_10
      have b_11 : 0 ≤ r_8.toInt ∧ r_8.toInt ≤ 1 := u_9.rg
      have l_12 : (0 : Int32).toInt = 0 := rfl
      refine ⟨fun c_13 => ?_, fun c_13 => ?_⟩
      · have d_14 := iEq c_13
        replace hg := gt_pos (by first | exact d_14 | omega) hg
        exact (hp _ _ hR hf (by first | omega | (intro h; omega) | exact Or.inl rfl | exact Or.inr rfl) (by first | omega | (intro h; omega) | exact Or.inl rfl | exact Or.inr rfl) hg.symm hl)
      · have d_15 := iNe c_13
        replace hg := gt_neg (by first | exact d_15 | omega) hg
        refine y_Tape_stepg hok hw1 ra1 hR (fun I_20 L_21 hR_22 fr_23 u_17 gn_18 ln_19 => ⟨I_20, L_21, rfl, rfl, ?_⟩)
        replace hl := hl.call ln_19 (fun c hc => by first | exact hc | exact False.elim hc | (dsimp only at hc ⊢; omega) | omega)
        replace hg := gt_b3 gn_18 hg
        clear gn_18
        have hf_24 : Fm (fun c => (o ≤ c ∧ c < o + 5) ∨ c = x1) I0 I_20 := hf.call fr_23 (fun c hc => by first | exact hc | (dsimp only at hc ⊢; omega) | omega)
        have t_25 : (I_20 o 6).toInt = (I o 6).toInt := by rw [fr_23 o (by first | omega | (dsimp only; omega))]
        have t_26 : (I_20 o 8).toInt = (I o 8).toInt := by rw [fr_23 o (by first | omega | (dsimp only; omega))]
        have k_27 : TokOK I_20 x1 := hi4.fr (fr_23 _ (by first | omega | (dsimp only; omega))) (fr_23 _ (by first | omega | (dsimp only; omega)))
        refine cReform_readOne I_20 L_21 _ _ hR_22 k_27 (by omega) (by omega) (fun I_28 L_29 hR_30 fr_31 k6_35 k8_36 eg_33 lz_34 => ⟨I_28, L_29, rfl, rfl, ?_⟩)
        replace hg := gt_b3 eg_33 hg
        clear eg_33
        replace hl := hl.call lz_34 (fun c hc => False.elim hc)
        have hf_32 : Fm (fun c => (o ≤ c ∧ c < o + 5) ∨ c = x1) I0 I_28 := hf_24.call fr_31 (fun c hc => hc)
        have k_37 : TokOK I_28 x1 := k_27.fr (fr_31 _ (by first | omega | (dsimp only; omega))) (fr_31 _ (by first | omega | (dsimp only; omega)))
        refine y_Reform_emitg hok hw ra (by first | omega | (intro h; omega) | exact Or.inl rfl | exact Or.inr rfl) hR_30 (fun I_43 L_44 hR_45 fr_46 u_39 u_40 gn_41 ln_42 => ⟨I_43, L_44, rfl, rfl, ?_⟩)
        replace hl := hl.call ln_42 (fun c hc => by first | exact hc | exact False.elim hc | (dsimp only at hc ⊢; omega) | omega)
        replace hg := gt_b3 gn_41 hg
        clear gn_41
        have hf_47 : Fm (fun c => (o ≤ c ∧ c < o + 5) ∨ c = x1) I0 I_43 := hf_32.call fr_46 (fun c hc => by first | exact hc | (dsimp only at hc ⊢; omega) | omega)
        have g_48 : (0 : Int) ≤ (I_43 o 6).toInt ∧ (I_43 o 6).toInt ≤ 5 := hR_45.at0 ra 6 (by decide)
        have g_49 : (-1 : Int) ≤ (I_43 o 8).toInt ∧ (I_43 o 8).toInt ≤ 10 := hR_45.at0 ra 8 (by decide)
        have k_50 : TokOK I_43 x1 := k_37.fr (fr_46 _ (by first | omega | (dsimp only; omega))) (fr_46 _ (by first | omega | (dsimp only; omega)))
        have a_52 : (x3 + Int32.ofInt 1).toInt = x3.toInt + (1) := tIc (by omega) (by omega) (by decide) (by decide)
        generalize ez_51 : (x3 + Int32.ofInt 1) = z_51 at a_52 ⊢
        replace hg := gt_let (y := z_51.toInt) (by omega) hg
        exact ih hR_45 hf_47 (by first | omega | (intro h; omega) | exact Or.inl rfl | exact Or.inr rfl) (by first | omega | (intro h; omega) | exact Or.inl rfl | exact Or.inr rfl) (by first | omega | (intro h; omega) | exact Or.inl rfl | exact Or.inr rfl) rfl k_50 hl hg (by omega)
set_option maxHeartbeats 4000000 in
set_option maxRecDepth 20000 in
theorem y_Reform_readBothg {D : va_G} {cA : FieldType → ClassId} {b : Nat} {E : State → Prop} {R : qRg} {o n : Nat} {sh : Nat → qC} {Rf : Nat → Nat → Option Nat} {I0 : Nat → Nat → Int32} {L0 : Nat → Nat → Int64} {post : Option Value → qS → Prop} {x1 : Nat} {p2 : Int32} (hok : q_ok (qGG D cA b E)) (hw : WfReform (qGG D cA b E) n sh Rf o) (ra : RAReform R o) (hw1 : WfTape (qGG D cA b E) n sh Rf x1) (ra1 : RATape R x1) {d : Nat} {lo : Int} {RReform_readOne : gJ → gL → Int → Int × gJ × gL} (hd0 : 5 ≤ d) (cReform_readOne : ∀ (J : Nat → Nat → Int32) (K : Nat → Nat → Int64) (post : Option Value → qS → Prop) (q : Int32), RI R J → TokOK J x1 → lo ≤ q.toInt → q.toInt ≤ 7 → (∀ I' L', RI R I' → Fm (fun c => (o ≤ c ∧ c < o + 5) ∨ c = x1) J I' → (I' o 6).toInt = (J o 6).toInt → (I' o 8).toInt = (J o 8).toInt → (RReform_readOne (tI J) K q.toInt = (0, tI I', L')) → (FmL (fun c => False) K L') → post none (n, sh, Rf, I', L')) → Ev (qGG D cA b E) mReform_readOne d (0, 0) 0 (lv_args 0 [.ref o, .ref x1, .int q]) [] (n, sh, Rf, J, K) post) (hs0 : o + 5 ≤ x1 ∨ x1 + 7 ≤ o) (hs1 : 0 ≤ lo) (hq0 : lo ≤ p2.toInt) (hq1 : p2.toInt ≤ 7) (hq2 : TokOK I0 x1) (hR : RI R I0) (hp : ∀ (I' : Nat → Nat → Int32) (L' : Nat → Nat → Int64), RI R I' → Fm (fun c => (o ≤ c ∧ c < o + 5) ∨ c = x1) I0 I' → ((I' o 6).toInt = (I0 o 6).toInt) → ((I' o 8).toInt = (I0 o 8).toInt) → (gReform_readBoth_0 RReform_readOne o x1 (tI I0) L0 (p2).toInt = (0, tI I', L')) → (FmL (fun c => False) L0 L') → post none (n, sh, Rf, I', L')) : Ev (qGG D cA b E) mReform_readBoth (d + 1) (0, 0) 0 (lv_args 0 [.ref o, .ref x1, .int p2]) [] (n, sh, Rf, I0, L0) post := by
  have hf : Fm (fun c => (o ≤ c ∧ c < o + 5) ∨ c = x1) I0 I0 := Fm.rf
  have g_53 : (0 : Int) ≤ (I0 o 6).toInt ∧ (I0 o 6).toInt ≤ 5 := hR.at0 ra 6 (by decide)
  have g_54 : (-1 : Int) ≤ (I0 o 8).toInt ∧ (I0 o 8).toInt ≤ 10 := hR.at0 ra 8 (by decide)
  refine sReform_readBoth_0 o n sh Rf I0 L0 post x1 p2 d hok hw hw1 hd0 ?_
  unfold fReform_readBoth_0
  have hl : FmL (fun c => False) L0 L0 := FmL.rf
  have hg : gReform_readBoth_0 RReform_readOne o x1 (tI I0) L0 (p2).toInt = gReform_readBoth_0 RReform_readOne o x1 (tI I0) L0 (p2).toInt := rfl
  replace hg := (eReform_readBoth_0).symm.trans hg
  refine cReform_readOne I0 L0 _ _ hR hq2 (by omega) (by omega) (fun I_55 L_56 hR_57 fr_58 k6_62 k8_63 eg_60 lz_61 => ⟨I_55, L_56, rfl, rfl, ?_⟩)
  replace hg := gt_b3 eg_60 hg
  clear eg_60
  replace hl := hl.call lz_61 (fun c hc => False.elim hc)
  have hf_59 : Fm (fun c => (o ≤ c ∧ c < o + 5) ∨ c = x1) I0 I_55 := hf.call fr_58 (fun c hc => hc)
  have k_64 : TokOK I_55 x1 := hq2.fr (fr_58 _ (by first | omega | (dsimp only; omega))) (fr_58 _ (by first | omega | (dsimp only; omega)))
  have l_65 : (0 : Int32).toInt = 0 := rfl
  exact yReform_readBoth_8g (I0 := I0) (L0 := L0) (p2 := p2) hok hw ra hw1 ra1 hd0 cReform_readOne hs0 hs1 hq0 hq1 hq2 hp  20000 hR_57 hf_59 (by first | omega | (intro h; omega) | exact Or.inl rfl | exact Or.inr rfl) (by first | omega | (intro h; omega) | exact Or.inl rfl | exact Or.inr rfl) (by first | omega | (intro h; omega) | exact Or.inl rfl | exact Or.inr rfl) rfl k_64 hl hg (by omega)
noncomputable def gReform_readOne_73 (RReform_readSum : gJ → gL → Int → Int × gJ × gL) (RReform_readOne : gJ → gL → Int → Int × gJ × gL) (o x1 : Nat) (J : gJ) (L : gL) (x2 : Int) : Int × gJ × gL := gLet (gTape_value_0 x1 J L) (fun (r_1 : Int) => gB3 (gTape_step_0 x1 J L) (fun r_2 J_3 L_4 => gB3 (RReform_readSum J_3 L_4 x2) (fun r_5 J_6 L_7 => gB3 (gReform_emit_0 o J_6 L_7 r_1) (fun r_8 J_9 L_10 => (0, J_9, L_10)))))
theorem eReform_readOne_73 {RReform_readSum : gJ → gL → Int → Int × gJ × gL} {RReform_readOne : gJ → gL → Int → Int × gJ × gL} {o x1 : Nat} {J : gJ} {L : gL} {x2 : Int} : gReform_readOne_73 RReform_readSum RReform_readOne o x1 J L x2 = gLet (gTape_value_0 x1 J L) (fun (r_1 : Int) => gB3 (gTape_step_0 x1 J L) (fun r_2 J_3 L_4 => gB3 (RReform_readSum J_3 L_4 x2) (fun r_5 J_6 L_7 => gB3 (gReform_emit_0 o J_6 L_7 r_1) (fun r_8 J_9 L_10 => (0, J_9, L_10))))) := rfl
noncomputable def gReform_readOne_0 (RReform_readSum : gJ → gL → Int → Int × gJ × gL) (RReform_readOne : gJ → gL → Int → Int × gJ × gL) (o x1 : Nat) (J : gJ) (L : gL) (x2 : Int) : Int × gJ × gL := gLet (gTape_isWord_0 x1 J L 22) (fun (r_1 : Int) => (if r_1 = 0 then gB3 (RReform_readSum J L x2) (fun r_2 J_3 L_4 => gLet (gTape_isSign_0 x1 J_3 L_4 60) (fun (r_5 : Int) => (if r_5 = 0 then gLet (gTape_isSign_0 x1 J_3 L_4 62) (fun (r_6 : Int) => (if r_6 = 0 then gLet (gTape_isSign_0 x1 J_3 L_4 61) (fun (r_7 : Int) => (if r_7 = 0 then (0, J_3, L_4) else (gReform_readOne_73 RReform_readSum RReform_readOne o x1 J_3 L_4 x2))) else (gReform_readOne_73 RReform_readSum RReform_readOne o x1 J_3 L_4 x2))) else (gReform_readOne_73 RReform_readSum RReform_readOne o x1 J_3 L_4 x2)))) else (if x2 ≤ 6 then gB3 (gTape_step_0 x1 J L) (fun r_8 J_9 L_10 => gLet (x2 + 1) (fun (v_11 : Int) => gB3 (RReform_readOne J_9 L_10 v_11) (fun r_12 J_13 L_14 => gB3 (gReform_emit_0 o J_13 L_14 22) (fun r_15 J_16 L_17 => (0, J_16, L_17))))) else gB3 (gTape_refuse_0 x1 J L 2) (fun r_18 J_19 L_20 => (0, J_19, L_20)))))
theorem eReform_readOne_0 {RReform_readSum : gJ → gL → Int → Int × gJ × gL} {RReform_readOne : gJ → gL → Int → Int × gJ × gL} {o x1 : Nat} {J : gJ} {L : gL} {x2 : Int} : gReform_readOne_0 RReform_readSum RReform_readOne o x1 J L x2 = gLet (gTape_isWord_0 x1 J L 22) (fun (r_1 : Int) => (if r_1 = 0 then gB3 (RReform_readSum J L x2) (fun r_2 J_3 L_4 => gLet (gTape_isSign_0 x1 J_3 L_4 60) (fun (r_5 : Int) => (if r_5 = 0 then gLet (gTape_isSign_0 x1 J_3 L_4 62) (fun (r_6 : Int) => (if r_6 = 0 then gLet (gTape_isSign_0 x1 J_3 L_4 61) (fun (r_7 : Int) => (if r_7 = 0 then (0, J_3, L_4) else (gReform_readOne_73 RReform_readSum RReform_readOne o x1 J_3 L_4 x2))) else (gReform_readOne_73 RReform_readSum RReform_readOne o x1 J_3 L_4 x2))) else (gReform_readOne_73 RReform_readSum RReform_readOne o x1 J_3 L_4 x2)))) else (if x2 ≤ 6 then gB3 (gTape_step_0 x1 J L) (fun r_8 J_9 L_10 => gLet (x2 + 1) (fun (v_11 : Int) => gB3 (RReform_readOne J_9 L_10 v_11) (fun r_12 J_13 L_14 => gB3 (gReform_emit_0 o J_13 L_14 22) (fun r_15 J_16 L_17 => (0, J_16, L_17))))) else gB3 (gTape_refuse_0 x1 J L 2) (fun r_18 J_19 L_20 => (0, J_19, L_20))))) := rfl
set_option maxHeartbeats 4000000 in
set_option maxRecDepth 20000 in
theorem y_Reform_readOneg {D : va_G} {cA : FieldType → ClassId} {b : Nat} {E : State → Prop} {R : qRg} {o n : Nat} {sh : Nat → qC} {Rf : Nat → Nat → Option Nat} {I0 : Nat → Nat → Int32} {L0 : Nat → Nat → Int64} {post : Option Value → qS → Prop} {x1 : Nat} {p2 : Int32} (hok : q_ok (qGG D cA b E)) (hw : WfReform (qGG D cA b E) n sh Rf o) (ra : RAReform R o) (hw1 : WfTape (qGG D cA b E) n sh Rf x1) (ra1 : RATape R x1) {d : Nat} {lo : Int} {RReform_readSum : gJ → gL → Int → Int × gJ × gL} {RReform_readOne : gJ → gL → Int → Int × gJ × gL} (hd0 : 5 ≤ d) (cReform_readSum : ∀ (J : Nat → Nat → Int32) (K : Nat → Nat → Int64) (post : Option Value → qS → Prop) (q : Int32), RI R J → TokOK J x1 → lo ≤ q.toInt → q.toInt ≤ 7 → (∀ I' L', RI R I' → Fm (fun c => (o ≤ c ∧ c < o + 5) ∨ c = x1) J I' → (I' o 6).toInt = (J o 6).toInt → (I' o 8).toInt = (J o 8).toInt → (RReform_readSum (tI J) K q.toInt = (0, tI I', L')) → (FmL (fun c => False) K L') → post none (n, sh, Rf, I', L')) → Ev (qGG D cA b E) mReform_readSum d (0, 0) 0 (lv_args 0 [.ref o, .ref x1, .int q]) [] (n, sh, Rf, J, K) post) (cReform_readOne : ∀ (J : Nat → Nat → Int32) (K : Nat → Nat → Int64) (post : Option Value → qS → Prop) (q : Int32), RI R J → TokOK J x1 → (lo + 1) ≤ q.toInt → q.toInt ≤ 7 → (∀ I' L', RI R I' → Fm (fun c => (o ≤ c ∧ c < o + 5) ∨ c = x1) J I' → (I' o 6).toInt = (J o 6).toInt → (I' o 8).toInt = (J o 8).toInt → (RReform_readOne (tI J) K q.toInt = (0, tI I', L')) → (FmL (fun c => False) K L') → post none (n, sh, Rf, I', L')) → Ev (qGG D cA b E) mReform_readOne d (0, 0) 0 (lv_args 0 [.ref o, .ref x1, .int q]) [] (n, sh, Rf, J, K) post) (hs0 : o + 5 ≤ x1 ∨ x1 + 7 ≤ o) (hs1 : 0 ≤ lo) (hq0 : lo ≤ p2.toInt) (hq1 : p2.toInt ≤ 7) (hq2 : TokOK I0 x1) (hR : RI R I0) (hp : ∀ (I' : Nat → Nat → Int32) (L' : Nat → Nat → Int64), RI R I' → Fm (fun c => (o ≤ c ∧ c < o + 5) ∨ c = x1) I0 I' → ((I' o 6).toInt = (I0 o 6).toInt) → ((I' o 8).toInt = (I0 o 8).toInt) → (gReform_readOne_0 RReform_readSum RReform_readOne o x1 (tI I0) L0 (p2).toInt = (0, tI I', L')) → (FmL (fun c => False) L0 L') → post none (n, sh, Rf, I', L')) : Ev (qGG D cA b E) mReform_readOne (d + 1) (0, 0) 0 (lv_args 0 [.ref o, .ref x1, .int p2]) [] (n, sh, Rf, I0, L0) post := by
  have hf : Fm (fun c => (o ≤ c ∧ c < o + 5) ∨ c = x1) I0 I0 := Fm.rf
  have g_1 : (0 : Int) ≤ (I0 o 6).toInt ∧ (I0 o 6).toInt ≤ 5 := hR.at0 ra 6 (by decide)
  have g_2 : (-1 : Int) ≤ (I0 o 8).toInt ∧ (I0 o 8).toInt ≤ 10 := hR.at0 ra 8 (by decide)
  refine sReform_readOne_0 o n sh Rf I0 L0 post x1 p2 d hok hw hw1 hd0 ?_
  unfold fReform_readOne_0
  have hl : FmL (fun c => False) L0 L0 := FmL.rf
  have hg : gReform_readOne_0 RReform_readSum RReform_readOne o x1 (tI I0) L0 (p2).toInt = gReform_readOne_0 RReform_readSum RReform_readOne o x1 (tI I0) L0 (p2).toInt := rfl
  replace hg := (eReform_readOne_0).symm.trans hg
  have l_3 : (22 : Int32).toInt = 22 := rfl
  refine y_Tape_isWordg hok hw1 ra1 hR (fun r_4 u_5 gn_6 => ⟨r_4, I0, L0, rfl, rfl, ?_⟩)
  replace hg := gt_let gn_6 hg
  clear gn_6
  have b_7 : 0 ≤ r_4.toInt ∧ r_4.toInt ≤ 1 := u_5.rg
  have l_8 : (0 : Int32).toInt = 0 := rfl
  refine ⟨fun c_9 => ?_, fun c_9 => ?_⟩
  · have d_10 := iEq c_9
    replace hg := gt_pos (by first | exact d_10 | omega) hg
    refine cReform_readSum I0 L0 _ _ hR hq2 (by omega) (by omega) (fun I_11 L_12 hR_13 fr_14 k6_18 k8_19 eg_16 lz_17 => ⟨I_11, L_12, rfl, rfl, ?_⟩)
    replace hg := gt_b3 eg_16 hg
    clear eg_16
    replace hl := hl.call lz_17 (fun c hc => False.elim hc)
    have hf_15 : Fm (fun c => (o ≤ c ∧ c < o + 5) ∨ c = x1) I0 I_11 := hf.call fr_14 (fun c hc => hc)
    have k_20 : TokOK I_11 x1 := hq2.fr (fr_14 _ (by first | omega | (dsimp only; omega))) (fr_14 _ (by first | omega | (dsimp only; omega)))
    have l_21 : (60 : Int32).toInt = 60 := rfl
    refine y_Tape_isSigng hok hw1 ra1 hR_13 (fun r_22 u_23 u_24 gn_25 => ⟨r_22, I_11, L_12, rfl, rfl, ?_⟩)
    replace hg := gt_let gn_25 hg
    clear gn_25
    have b_26 : 0 ≤ r_22.toInt ∧ r_22.toInt ≤ 1 := u_23.rg
    refine ⟨fun c_27 => ?_, fun c_27 => ?_⟩
    · have d_28 := iNe c_27
      replace hg := gt_neg (by first | exact d_28 | omega) hg
      unfold fReform_readOne_73
      replace hg := (eReform_readOne_73).symm.trans hg
      refine y_Tape_valueg hok hw1 ra1 hR_13 (fun r_29 u_30 gn_31 => ⟨r_29, I_11, L_12, rfl, rfl, ?_⟩)
      replace hg := gt_let gn_31 hg
      clear gn_31
      have sg := u_24 (by omega)
      have vq := iEq u_30
      have v_32 : (0 : Int) ≤ r_29.toInt ∧ r_29.toInt ≤ 127 := by omega
      refine y_Tape_stepg hok hw1 ra1 hR_13 (fun I_37 L_38 hR_39 fr_40 u_34 gn_35 ln_36 => ⟨I_37, L_38, rfl, rfl, ?_⟩)
      replace hl := hl.call ln_36 (fun c hc => by first | exact hc | exact False.elim hc | (dsimp only at hc ⊢; omega) | omega)
      replace hg := gt_b3 gn_35 hg
      clear gn_35
      have hf_41 : Fm (fun c => (o ≤ c ∧ c < o + 5) ∨ c = x1) I0 I_37 := hf_15.call fr_40 (fun c hc => by first | exact hc | (dsimp only at hc ⊢; omega) | omega)
      have t_42 : (I_37 o 6).toInt = (I_11 o 6).toInt := by rw [fr_40 o (by first | omega | (dsimp only; omega))]
      have t_43 : (I_37 o 8).toInt = (I_11 o 8).toInt := by rw [fr_40 o (by first | omega | (dsimp only; omega))]
      have k_44 : TokOK I_37 x1 := k_20.fr (fr_40 _ (by first | omega | (dsimp only; omega))) (fr_40 _ (by first | omega | (dsimp only; omega)))
      refine cReform_readSum I_37 L_38 _ _ hR_39 k_44 (by omega) (by omega) (fun I_45 L_46 hR_47 fr_48 k6_52 k8_53 eg_50 lz_51 => ⟨I_45, L_46, rfl, rfl, ?_⟩)
      replace hg := gt_b3 eg_50 hg
      clear eg_50
      replace hl := hl.call lz_51 (fun c hc => False.elim hc)
      have hf_49 : Fm (fun c => (o ≤ c ∧ c < o + 5) ∨ c = x1) I0 I_45 := hf_41.call fr_48 (fun c hc => hc)
      have k_54 : TokOK I_45 x1 := k_44.fr (fr_48 _ (by first | omega | (dsimp only; omega))) (fr_48 _ (by first | omega | (dsimp only; omega)))
      refine y_Reform_emitg hok hw ra (by first | omega | (intro h; omega) | exact Or.inl rfl | exact Or.inr rfl) hR_47 (fun I_60 L_61 hR_62 fr_63 u_56 u_57 gn_58 ln_59 => ⟨I_60, L_61, rfl, rfl, ?_⟩)
      replace hl := hl.call ln_59 (fun c hc => by first | exact hc | exact False.elim hc | (dsimp only at hc ⊢; omega) | omega)
      replace hg := gt_b3 gn_58 hg
      clear gn_58
      have hf_64 : Fm (fun c => (o ≤ c ∧ c < o + 5) ∨ c = x1) I0 I_60 := hf_49.call fr_63 (fun c hc => by first | exact hc | (dsimp only at hc ⊢; omega) | omega)
      have g_65 : (0 : Int) ≤ (I_60 o 6).toInt ∧ (I_60 o 6).toInt ≤ 5 := hR_62.at0 ra 6 (by decide)
      have g_66 : (-1 : Int) ≤ (I_60 o 8).toInt ∧ (I_60 o 8).toInt ≤ 10 := hR_62.at0 ra 8 (by decide)
      have k_67 : TokOK I_60 x1 := k_54.fr (fr_63 _ (by first | omega | (dsimp only; omega))) (fr_63 _ (by first | omega | (dsimp only; omega)))
      exact (hp _ _ hR_62 hf_64 (by first | omega | (intro h; omega) | exact Or.inl rfl | exact Or.inr rfl) (by first | omega | (intro h; omega) | exact Or.inl rfl | exact Or.inr rfl) hg.symm hl)
    · have d_68 := iEq c_27
      replace hg := gt_pos (by first | exact d_68 | omega) hg
      have l_69 : (62 : Int32).toInt = 62 := rfl
      refine y_Tape_isSigng hok hw1 ra1 hR_13 (fun r_70 u_71 u_72 gn_73 => ⟨r_70, I_11, L_12, rfl, rfl, ?_⟩)
      replace hg := gt_let gn_73 hg
      clear gn_73
      have b_74 : 0 ≤ r_70.toInt ∧ r_70.toInt ≤ 1 := u_71.rg
      refine ⟨fun c_75 => ?_, fun c_75 => ?_⟩
      · have d_76 := iNe c_75
        replace hg := gt_neg (by first | exact d_76 | omega) hg
        unfold fReform_readOne_73
        replace hg := (eReform_readOne_73).symm.trans hg
        refine y_Tape_valueg hok hw1 ra1 hR_13 (fun r_77 u_78 gn_79 => ⟨r_77, I_11, L_12, rfl, rfl, ?_⟩)
        replace hg := gt_let gn_79 hg
        clear gn_79
        have sg := u_72 (by omega)
        have vq := iEq u_78
        have v_80 : (0 : Int) ≤ r_77.toInt ∧ r_77.toInt ≤ 127 := by omega
        refine y_Tape_stepg hok hw1 ra1 hR_13 (fun I_85 L_86 hR_87 fr_88 u_82 gn_83 ln_84 => ⟨I_85, L_86, rfl, rfl, ?_⟩)
        replace hl := hl.call ln_84 (fun c hc => by first | exact hc | exact False.elim hc | (dsimp only at hc ⊢; omega) | omega)
        replace hg := gt_b3 gn_83 hg
        clear gn_83
        have hf_89 : Fm (fun c => (o ≤ c ∧ c < o + 5) ∨ c = x1) I0 I_85 := hf_15.call fr_88 (fun c hc => by first | exact hc | (dsimp only at hc ⊢; omega) | omega)
        have t_90 : (I_85 o 6).toInt = (I_11 o 6).toInt := by rw [fr_88 o (by first | omega | (dsimp only; omega))]
        have t_91 : (I_85 o 8).toInt = (I_11 o 8).toInt := by rw [fr_88 o (by first | omega | (dsimp only; omega))]
        have k_92 : TokOK I_85 x1 := k_20.fr (fr_88 _ (by first | omega | (dsimp only; omega))) (fr_88 _ (by first | omega | (dsimp only; omega)))
        refine cReform_readSum I_85 L_86 _ _ hR_87 k_92 (by omega) (by omega) (fun I_93 L_94 hR_95 fr_96 k6_100 k8_101 eg_98 lz_99 => ⟨I_93, L_94, rfl, rfl, ?_⟩)
        replace hg := gt_b3 eg_98 hg
        clear eg_98
        replace hl := hl.call lz_99 (fun c hc => False.elim hc)
        have hf_97 : Fm (fun c => (o ≤ c ∧ c < o + 5) ∨ c = x1) I0 I_93 := hf_89.call fr_96 (fun c hc => hc)
        have k_102 : TokOK I_93 x1 := k_92.fr (fr_96 _ (by first | omega | (dsimp only; omega))) (fr_96 _ (by first | omega | (dsimp only; omega)))
        refine y_Reform_emitg hok hw ra (by first | omega | (intro h; omega) | exact Or.inl rfl | exact Or.inr rfl) hR_95 (fun I_108 L_109 hR_110 fr_111 u_104 u_105 gn_106 ln_107 => ⟨I_108, L_109, rfl, rfl, ?_⟩)
        replace hl := hl.call ln_107 (fun c hc => by first | exact hc | exact False.elim hc | (dsimp only at hc ⊢; omega) | omega)
        replace hg := gt_b3 gn_106 hg
        clear gn_106
        have hf_112 : Fm (fun c => (o ≤ c ∧ c < o + 5) ∨ c = x1) I0 I_108 := hf_97.call fr_111 (fun c hc => by first | exact hc | (dsimp only at hc ⊢; omega) | omega)
        have g_113 : (0 : Int) ≤ (I_108 o 6).toInt ∧ (I_108 o 6).toInt ≤ 5 := hR_110.at0 ra 6 (by decide)
        have g_114 : (-1 : Int) ≤ (I_108 o 8).toInt ∧ (I_108 o 8).toInt ≤ 10 := hR_110.at0 ra 8 (by decide)
        have k_115 : TokOK I_108 x1 := k_102.fr (fr_111 _ (by first | omega | (dsimp only; omega))) (fr_111 _ (by first | omega | (dsimp only; omega)))
        exact (hp _ _ hR_110 hf_112 (by first | omega | (intro h; omega) | exact Or.inl rfl | exact Or.inr rfl) (by first | omega | (intro h; omega) | exact Or.inl rfl | exact Or.inr rfl) hg.symm hl)
      · have d_116 := iEq c_75
        replace hg := gt_pos (by first | exact d_116 | omega) hg
        have l_117 : (61 : Int32).toInt = 61 := rfl
        refine y_Tape_isSigng hok hw1 ra1 hR_13 (fun r_118 u_119 u_120 gn_121 => ⟨r_118, I_11, L_12, rfl, rfl, ?_⟩)
        replace hg := gt_let gn_121 hg
        clear gn_121
        have b_122 : 0 ≤ r_118.toInt ∧ r_118.toInt ≤ 1 := u_119.rg
        refine ⟨fun c_123 => ?_, fun c_123 => ?_⟩
        · have d_124 := iEq c_123
          replace hg := gt_pos (by first | exact d_124 | omega) hg
          exact (hp _ _ hR_13 hf_15 (by first | omega | (intro h; omega) | exact Or.inl rfl | exact Or.inr rfl) (by first | omega | (intro h; omega) | exact Or.inl rfl | exact Or.inr rfl) hg.symm hl)
        · have d_125 := iNe c_123
          replace hg := gt_neg (by first | exact d_125 | omega) hg
          unfold fReform_readOne_73
          replace hg := (eReform_readOne_73).symm.trans hg
          refine y_Tape_valueg hok hw1 ra1 hR_13 (fun r_126 u_127 gn_128 => ⟨r_126, I_11, L_12, rfl, rfl, ?_⟩)
          replace hg := gt_let gn_128 hg
          clear gn_128
          have sg := u_120 (by omega)
          have vq := iEq u_127
          have v_129 : (0 : Int) ≤ r_126.toInt ∧ r_126.toInt ≤ 127 := by omega
          refine y_Tape_stepg hok hw1 ra1 hR_13 (fun I_134 L_135 hR_136 fr_137 u_131 gn_132 ln_133 => ⟨I_134, L_135, rfl, rfl, ?_⟩)
          replace hl := hl.call ln_133 (fun c hc => by first | exact hc | exact False.elim hc | (dsimp only at hc ⊢; omega) | omega)
          replace hg := gt_b3 gn_132 hg
          clear gn_132
          have hf_138 : Fm (fun c => (o ≤ c ∧ c < o + 5) ∨ c = x1) I0 I_134 := hf_15.call fr_137 (fun c hc => by first | exact hc | (dsimp only at hc ⊢; omega) | omega)
          have t_139 : (I_134 o 6).toInt = (I_11 o 6).toInt := by rw [fr_137 o (by first | omega | (dsimp only; omega))]
          have t_140 : (I_134 o 8).toInt = (I_11 o 8).toInt := by rw [fr_137 o (by first | omega | (dsimp only; omega))]
          have k_141 : TokOK I_134 x1 := k_20.fr (fr_137 _ (by first | omega | (dsimp only; omega))) (fr_137 _ (by first | omega | (dsimp only; omega)))
          refine cReform_readSum I_134 L_135 _ _ hR_136 k_141 (by omega) (by omega) (fun I_142 L_143 hR_144 fr_145 k6_149 k8_150 eg_147 lz_148 => ⟨I_142, L_143, rfl, rfl, ?_⟩)
          replace hg := gt_b3 eg_147 hg
          clear eg_147
          replace hl := hl.call lz_148 (fun c hc => False.elim hc)
          have hf_146 : Fm (fun c => (o ≤ c ∧ c < o + 5) ∨ c = x1) I0 I_142 := hf_138.call fr_145 (fun c hc => hc)
          have k_151 : TokOK I_142 x1 := k_141.fr (fr_145 _ (by first | omega | (dsimp only; omega))) (fr_145 _ (by first | omega | (dsimp only; omega)))
          refine y_Reform_emitg hok hw ra (by first | omega | (intro h; omega) | exact Or.inl rfl | exact Or.inr rfl) hR_144 (fun I_157 L_158 hR_159 fr_160 u_153 u_154 gn_155 ln_156 => ⟨I_157, L_158, rfl, rfl, ?_⟩)
          replace hl := hl.call ln_156 (fun c hc => by first | exact hc | exact False.elim hc | (dsimp only at hc ⊢; omega) | omega)
          replace hg := gt_b3 gn_155 hg
          clear gn_155
          have hf_161 : Fm (fun c => (o ≤ c ∧ c < o + 5) ∨ c = x1) I0 I_157 := hf_146.call fr_160 (fun c hc => by first | exact hc | (dsimp only at hc ⊢; omega) | omega)
          have g_162 : (0 : Int) ≤ (I_157 o 6).toInt ∧ (I_157 o 6).toInt ≤ 5 := hR_159.at0 ra 6 (by decide)
          have g_163 : (-1 : Int) ≤ (I_157 o 8).toInt ∧ (I_157 o 8).toInt ≤ 10 := hR_159.at0 ra 8 (by decide)
          have k_164 : TokOK I_157 x1 := k_151.fr (fr_160 _ (by first | omega | (dsimp only; omega))) (fr_160 _ (by first | omega | (dsimp only; omega)))
          exact (hp _ _ hR_159 hf_161 (by first | omega | (intro h; omega) | exact Or.inl rfl | exact Or.inr rfl) (by first | omega | (intro h; omega) | exact Or.inl rfl | exact Or.inr rfl) hg.symm hl)
  · have d_165 := iNe c_9
    replace hg := gt_neg (by first | exact d_165 | omega) hg
    have l_166 : (6 : Int32).toInt = 6 := rfl
    refine ⟨fun c_167 => ?_, fun c_167 => ?_⟩
    · have d_168 := iLe c_167
      replace hg := gt_pos (by first | exact d_168 | omega) hg
      refine y_Tape_stepg hok hw1 ra1 hR (fun I_173 L_174 hR_175 fr_176 u_170 gn_171 ln_172 => ⟨I_173, L_174, rfl, rfl, ?_⟩)
      replace hl := hl.call ln_172 (fun c hc => by first | exact hc | exact False.elim hc | (dsimp only at hc ⊢; omega) | omega)
      replace hg := gt_b3 gn_171 hg
      clear gn_171
      have hf_177 : Fm (fun c => (o ≤ c ∧ c < o + 5) ∨ c = x1) I0 I_173 := hf.call fr_176 (fun c hc => by first | exact hc | (dsimp only at hc ⊢; omega) | omega)
      have t_178 : (I_173 o 6).toInt = (I0 o 6).toInt := by rw [fr_176 o (by first | omega | (dsimp only; omega))]
      have t_179 : (I_173 o 8).toInt = (I0 o 8).toInt := by rw [fr_176 o (by first | omega | (dsimp only; omega))]
      have k_180 : TokOK I_173 x1 := hq2.fr (fr_176 _ (by first | omega | (dsimp only; omega))) (fr_176 _ (by first | omega | (dsimp only; omega)))
      have l_181 : (1 : Int32).toInt = 1 := rfl
      have a_182 : (p2 + 1).toInt = p2.toInt + (1 : Int32).toInt := tAdd (by omega) (by omega)
      replace hg := gt_let (y := ((p2 + 1) : Int32).toInt) (by omega) hg
      refine cReform_readOne I_173 L_174 _ _ hR_175 k_180 (by omega) (by omega) (fun I_183 L_184 hR_185 fr_186 k6_190 k8_191 eg_188 lz_189 => ⟨I_183, L_184, rfl, rfl, ?_⟩)
      replace hg := gt_b3 eg_188 hg
      clear eg_188
      replace hl := hl.call lz_189 (fun c hc => False.elim hc)
      have hf_187 : Fm (fun c => (o ≤ c ∧ c < o + 5) ∨ c = x1) I0 I_183 := hf_177.call fr_186 (fun c hc => hc)
      have k_192 : TokOK I_183 x1 := k_180.fr (fr_186 _ (by first | omega | (dsimp only; omega))) (fr_186 _ (by first | omega | (dsimp only; omega)))
      refine y_Reform_emitg hok hw ra (by first | omega | (intro h; omega) | exact Or.inl rfl | exact Or.inr rfl) hR_185 (fun I_198 L_199 hR_200 fr_201 u_194 u_195 gn_196 ln_197 => ⟨I_198, L_199, rfl, rfl, ?_⟩)
      replace hl := hl.call ln_197 (fun c hc => by first | exact hc | exact False.elim hc | (dsimp only at hc ⊢; omega) | omega)
      replace hg := gt_b3 gn_196 hg
      clear gn_196
      have hf_202 : Fm (fun c => (o ≤ c ∧ c < o + 5) ∨ c = x1) I0 I_198 := hf_187.call fr_201 (fun c hc => by first | exact hc | (dsimp only at hc ⊢; omega) | omega)
      have g_203 : (0 : Int) ≤ (I_198 o 6).toInt ∧ (I_198 o 6).toInt ≤ 5 := hR_200.at0 ra 6 (by decide)
      have g_204 : (-1 : Int) ≤ (I_198 o 8).toInt ∧ (I_198 o 8).toInt ≤ 10 := hR_200.at0 ra 8 (by decide)
      have k_205 : TokOK I_198 x1 := k_192.fr (fr_201 _ (by first | omega | (dsimp only; omega))) (fr_201 _ (by first | omega | (dsimp only; omega)))
      exact (hp _ _ hR_200 hf_202 (by first | omega | (intro h; omega) | exact Or.inl rfl | exact Or.inr rfl) (by first | omega | (intro h; omega) | exact Or.inl rfl | exact Or.inr rfl) hg.symm hl)
    · have d_206 := iNle c_167
      replace hg := gt_neg (by first | exact d_206 | omega) hg
      have l_207 : (2 : Int32).toInt = 2 := rfl
      refine y_Tape_refuseg hok hw1 ra1 (by first | omega | (intro h; omega) | exact Or.inl rfl | exact Or.inr rfl) hR (fun I_213 L_214 hR_215 fr_216 u_209 u_210 gn_211 ln_212 => ⟨I_213, L_214, rfl, rfl, ?_⟩)
      replace hl := hl.call ln_212 (fun c hc => by first | exact hc | exact False.elim hc | (dsimp only at hc ⊢; omega) | omega)
      replace hg := gt_b3 gn_211 hg
      clear gn_211
      have hf_217 : Fm (fun c => (o ≤ c ∧ c < o + 5) ∨ c = x1) I0 I_213 := hf.call fr_216 (fun c hc => by first | exact hc | (dsimp only at hc ⊢; omega) | omega)
      have t_218 : (I_213 o 6).toInt = (I0 o 6).toInt := by rw [fr_216 o (by first | omega | (dsimp only; omega))]
      have t_219 : (I_213 o 8).toInt = (I0 o 8).toInt := by rw [fr_216 o (by first | omega | (dsimp only; omega))]
      have k_220 : TokOK I_213 x1 := hq2.fr (fr_216 _ (by first | omega | (dsimp only; omega))) (fr_216 _ (by first | omega | (dsimp only; omega)))
      exact (hp _ _ hR_215 hf_217 (by first | omega | (intro h; omega) | exact Or.inl rfl | exact Or.inr rfl) (by first | omega | (intro h; omega) | exact Or.inl rfl | exact Or.inr rfl) hg.symm hl)
noncomputable def gReform_readSum_33 (K8 : gJ → gL → Int → Int → (Int × gJ × gL)) (RReform_readTerm : gJ → gL → Int → Int × gJ × gL) (o x1 : Nat) (J : gJ) (L : gL) (x2 : Int) (x3 : Int) : Int × gJ × gL := gLet (gTape_value_0 x1 J L) (fun (r_1 : Int) => gB3 (gTape_step_0 x1 J L) (fun r_2 J_3 L_4 => gB3 (RReform_readTerm J_3 L_4 x2) (fun r_5 J_6 L_7 => gB3 (gReform_emit_0 o J_6 L_7 r_1) (fun r_8 J_9 L_10 => gLet (x3 + 1) (fun (v_11 : Int) => (K8 J_9 L_10 x2 v_11))))))
theorem eReform_readSum_33 {K8 : gJ → gL → Int → Int → (Int × gJ × gL)} {RReform_readTerm : gJ → gL → Int → Int × gJ × gL} {o x1 : Nat} {J : gJ} {L : gL} {x2 : Int} {x3 : Int} : gReform_readSum_33 K8 RReform_readTerm o x1 J L x2 x3 = gLet (gTape_value_0 x1 J L) (fun (r_1 : Int) => gB3 (gTape_step_0 x1 J L) (fun r_2 J_3 L_4 => gB3 (RReform_readTerm J_3 L_4 x2) (fun r_5 J_6 L_7 => gB3 (gReform_emit_0 o J_6 L_7 r_1) (fun r_8 J_9 L_10 => gLet (x3 + 1) (fun (v_11 : Int) => (K8 J_9 L_10 x2 v_11)))))) := rfl
noncomputable def gReform_readSum_8 (k : Nat) (RReform_readTerm : gJ → gL → Int → Int × gJ × gL) (o x1 : Nat) (J : gJ) (L : gL) (x2 : Int) (x3 : Int) : Int × gJ × gL := match k with
  | 0 => default
  | k + 1 => (if 700 ≤ x3 then (0, J, L) else gLet (gTape_isSign_0 x1 J L 43) (fun (r_1 : Int) => (if r_1 = 0 then gLet (gTape_isSign_0 x1 J L 45) (fun (r_2 : Int) => (if r_2 = 0 then (0, J, L) else (gReform_readSum_33 (gReform_readSum_8 k RReform_readTerm o x1) RReform_readTerm o x1 J L x2 x3))) else (gReform_readSum_33 (gReform_readSum_8 k RReform_readTerm o x1) RReform_readTerm o x1 J L x2 x3))))
theorem eReform_readSum_8 {k : Nat} {RReform_readTerm : gJ → gL → Int → Int × gJ × gL} {o x1 : Nat} {J : gJ} {L : gL} {x2 : Int} {x3 : Int} : gReform_readSum_8 (k + 1) RReform_readTerm o x1 J L x2 x3 = (if 700 ≤ x3 then (0, J, L) else gLet (gTape_isSign_0 x1 J L 43) (fun (r_1 : Int) => (if r_1 = 0 then gLet (gTape_isSign_0 x1 J L 45) (fun (r_2 : Int) => (if r_2 = 0 then (0, J, L) else (gReform_readSum_33 (gReform_readSum_8 k RReform_readTerm o x1) RReform_readTerm o x1 J L x2 x3))) else (gReform_readSum_33 (gReform_readSum_8 k RReform_readTerm o x1) RReform_readTerm o x1 J L x2 x3)))) := rfl
noncomputable def gReform_readSum_0 (RReform_readTerm : gJ → gL → Int → Int × gJ × gL) (o x1 : Nat) (J : gJ) (L : gL) (x2 : Int) : Int × gJ × gL := gB3 (RReform_readTerm J L x2) (fun r_1 J_2 L_3 => (gReform_readSum_8 20000 RReform_readTerm o x1 J_2 L_3 x2 0))
theorem eReform_readSum_0 {RReform_readTerm : gJ → gL → Int → Int × gJ × gL} {o x1 : Nat} {J : gJ} {L : gL} {x2 : Int} : gReform_readSum_0 RReform_readTerm o x1 J L x2 = gB3 (RReform_readTerm J L x2) (fun r_1 J_2 L_3 => (gReform_readSum_8 20000 RReform_readTerm o x1 J_2 L_3 x2 0)) := rfl
set_option maxHeartbeats 4000000 in
set_option maxRecDepth 20000 in
theorem yReform_readSum_8g {D : va_G} {cA : FieldType → ClassId} {b : Nat} {E : State → Prop} {R : qRg} {o n : Nat} {sh : Nat → qC} {Rf : Nat → Nat → Option Nat} {I0 : Nat → Nat → Int32} {L0 : Nat → Nat → Int64} {post : Option Value → qS → Prop} {x1 : Nat} {p2 : Int32} (hok : q_ok (qGG D cA b E)) (hw : WfReform (qGG D cA b E) n sh Rf o) (ra : RAReform R o) (hw1 : WfTape (qGG D cA b E) n sh Rf x1) (ra1 : RATape R x1) {d : Nat} {lo : Int} {RReform_readTerm : gJ → gL → Int → Int × gJ × gL} (hd0 : 5 ≤ d) (cReform_readTerm : ∀ (J : Nat → Nat → Int32) (K : Nat → Nat → Int64) (post : Option Value → qS → Prop) (q : Int32), RI R J → TokOK J x1 → lo ≤ q.toInt → q.toInt ≤ 7 → (∀ I' L', RI R I' → Fm (fun c => (o ≤ c ∧ c < o + 5) ∨ c = x1) J I' → (I' o 6).toInt = (J o 6).toInt → (I' o 8).toInt = (J o 8).toInt → (RReform_readTerm (tI J) K q.toInt = (0, tI I', L')) → (FmL (fun c => False) K L') → post none (n, sh, Rf, I', L')) → Ev (qGG D cA b E) mReform_readTerm d (0, 0) 0 (lv_args 0 [.ref o, .ref x1, .int q]) [] (n, sh, Rf, J, K) post) (hs0 : o + 5 ≤ x1 ∨ x1 + 7 ≤ o) (hs1 : 0 ≤ lo) (hq0 : lo ≤ p2.toInt) (hq1 : p2.toInt ≤ 7) (hq2 : TokOK I0 x1) (hp : ∀ (I' : Nat → Nat → Int32) (L' : Nat → Nat → Int64), RI R I' → Fm (fun c => (o ≤ c ∧ c < o + 5) ∨ c = x1) I0 I' → ((I' o 6).toInt = (I0 o 6).toInt) → ((I' o 8).toInt = (I0 o 8).toInt) → (gReform_readSum_0 RReform_readTerm o x1 (tI I0) L0 (p2).toInt = (0, tI I', L')) → (FmL (fun c => False) L0 L') → post none (n, sh, Rf, I', L')) : ∀ (k : Nat) {x2 : Int32} {x3 : Int32} {I : Nat → Nat → Int32} {L : Nat → Nat → Int64}, RI R I → Fm (fun c => (o ≤ c ∧ c < o + 5) ∨ c = x1) I0 I → ((0 : Int) ≤ x3.toInt ∧ x3.toInt ≤ 700) → ((I o 6).toInt = (I0 o 6).toInt) → ((I o 8).toInt = (I0 o 8).toInt) → (x2 = p2) → (TokOK I x1) → (FmL (fun c => False) L0 L) → (gReform_readSum_8 k RReform_readTerm o x1 (tI I) L (x2).toInt (x3).toInt = gReform_readSum_0 RReform_readTerm o x1 (tI I0) L0 (p2).toInt) → (700 - x3.toInt).toNat < k → Ev (qGG D cA b E) mReform_readSum (d + 1) (0, 0) 8 [(0, .ref o), (1, .ref x1), (2, .int x2), (3, .int x3)] [] (n, sh, Rf, I, L) post := by
  intro k
  induction k with
  | zero =>
    intro x2 x3 I L hR hf hi0 hi1 hi2 hi3 hi4 hl hg hm
    exact absurd hm (Nat.not_lt_zero _)
  | succ k ih =>
    intro x2 x3 I L hR hf hi0 hi1 hi2 hi3 hi4 hl hg hm
    have hz0 := hi3.symm
    subst hz0
    have g_1 : (0 : Int) ≤ (I o 6).toInt ∧ (I o 6).toInt ≤ 5 := hR.at0 ra 6 (by decide)
    have g_2 : (-1 : Int) ≤ (I o 8).toInt ∧ (I o 8).toInt ≤ 10 := hR.at0 ra 8 (by decide)
    refine sReform_readSum_8 o n sh Rf I L post x1 p2 x3 d hok hw hw1 hd0 ?_
    unfold fReform_readSum_8
    replace hg := (eReform_readSum_8).symm.trans hg
    have l_3 : (700 : Int32).toInt = 700 := rfl
    refine ⟨fun c_4 => ?_, fun c_4 => ?_⟩
    · have d_5 := iLe c_4
      replace hg := gt_pos (by first | exact d_5 | omega) hg
      exact (hp _ _ hR hf (by first | omega | (intro h; omega) | exact Or.inl rfl | exact Or.inr rfl) (by first | omega | (intro h; omega) | exact Or.inl rfl | exact Or.inr rfl) hg.symm hl)
    · have d_6 := iNle c_4
      replace hg := gt_neg (by first | exact d_6 | omega) hg
      have l_7 : (43 : Int32).toInt = 43 := rfl
      refine y_Tape_isSigng hok hw1 ra1 hR (fun r_8 u_9 u_10 gn_11 => ⟨r_8, I, L, rfl, rfl, ?_⟩)
      replace hg := gt_let gn_11 hg
      clear gn_11
      have b_12 : 0 ≤ r_8.toInt ∧ r_8.toInt ≤ 1 := u_9.rg
      have l_13 : (0 : Int32).toInt = 0 := rfl
      refine ⟨fun c_14 => ?_, fun c_14 => ?_⟩
      · have d_15 := iNe c_14
        replace hg := gt_neg (by first | exact d_15 | omega) hg
        unfold fReform_readSum_33
        replace hg := (eReform_readSum_33).symm.trans hg
        refine y_Tape_valueg hok hw1 ra1 hR (fun r_16 u_17 gn_18 => ⟨r_16, I, L, rfl, rfl, ?_⟩)
        replace hg := gt_let gn_18 hg
        clear gn_18
        have sg := u_10 (by omega)
        have vq := iEq u_17
        have v_19 : (0 : Int) ≤ r_16.toInt ∧ r_16.toInt ≤ 127 := by omega
        refine y_Tape_stepg hok hw1 ra1 hR (fun I_24 L_25 hR_26 fr_27 u_21 gn_22 ln_23 => ⟨I_24, L_25, rfl, rfl, ?_⟩)
        replace hl := hl.call ln_23 (fun c hc => by first | exact hc | exact False.elim hc | (dsimp only at hc ⊢; omega) | omega)
        replace hg := gt_b3 gn_22 hg
        clear gn_22
        have hf_28 : Fm (fun c => (o ≤ c ∧ c < o + 5) ∨ c = x1) I0 I_24 := hf.call fr_27 (fun c hc => by first | exact hc | (dsimp only at hc ⊢; omega) | omega)
        have t_29 : (I_24 o 6).toInt = (I o 6).toInt := by rw [fr_27 o (by first | omega | (dsimp only; omega))]
        have t_30 : (I_24 o 8).toInt = (I o 8).toInt := by rw [fr_27 o (by first | omega | (dsimp only; omega))]
        have k_31 : TokOK I_24 x1 := hi4.fr (fr_27 _ (by first | omega | (dsimp only; omega))) (fr_27 _ (by first | omega | (dsimp only; omega)))
        refine cReform_readTerm I_24 L_25 _ _ hR_26 k_31 (by omega) (by omega) (fun I_32 L_33 hR_34 fr_35 k6_39 k8_40 eg_37 lz_38 => ⟨I_32, L_33, rfl, rfl, ?_⟩)
        replace hg := gt_b3 eg_37 hg
        clear eg_37
        replace hl := hl.call lz_38 (fun c hc => False.elim hc)
        have hf_36 : Fm (fun c => (o ≤ c ∧ c < o + 5) ∨ c = x1) I0 I_32 := hf_28.call fr_35 (fun c hc => hc)
        have k_41 : TokOK I_32 x1 := k_31.fr (fr_35 _ (by first | omega | (dsimp only; omega))) (fr_35 _ (by first | omega | (dsimp only; omega)))
        refine y_Reform_emitg hok hw ra (by first | omega | (intro h; omega) | exact Or.inl rfl | exact Or.inr rfl) hR_34 (fun I_47 L_48 hR_49 fr_50 u_43 u_44 gn_45 ln_46 => ⟨I_47, L_48, rfl, rfl, ?_⟩)
        replace hl := hl.call ln_46 (fun c hc => by first | exact hc | exact False.elim hc | (dsimp only at hc ⊢; omega) | omega)
        replace hg := gt_b3 gn_45 hg
        clear gn_45
        have hf_51 : Fm (fun c => (o ≤ c ∧ c < o + 5) ∨ c = x1) I0 I_47 := hf_36.call fr_50 (fun c hc => by first | exact hc | (dsimp only at hc ⊢; omega) | omega)
        have g_52 : (0 : Int) ≤ (I_47 o 6).toInt ∧ (I_47 o 6).toInt ≤ 5 := hR_49.at0 ra 6 (by decide)
        have g_53 : (-1 : Int) ≤ (I_47 o 8).toInt ∧ (I_47 o 8).toInt ≤ 10 := hR_49.at0 ra 8 (by decide)
        have k_54 : TokOK I_47 x1 := k_41.fr (fr_50 _ (by first | omega | (dsimp only; omega))) (fr_50 _ (by first | omega | (dsimp only; omega)))
        have a_56 : (x3 + Int32.ofInt 1).toInt = x3.toInt + (1) := tIc (by omega) (by omega) (by decide) (by decide)
        generalize ez_55 : (x3 + Int32.ofInt 1) = z_55 at a_56 ⊢
        replace hg := gt_let (y := z_55.toInt) (by omega) hg
        exact ih hR_49 hf_51 (by first | omega | (intro h; omega) | exact Or.inl rfl | exact Or.inr rfl) (by first | omega | (intro h; omega) | exact Or.inl rfl | exact Or.inr rfl) (by first | omega | (intro h; omega) | exact Or.inl rfl | exact Or.inr rfl) rfl k_54 hl hg (by omega)
      · have d_57 := iEq c_14
        replace hg := gt_pos (by first | exact d_57 | omega) hg
        have l_58 : (45 : Int32).toInt = 45 := rfl
        refine y_Tape_isSigng hok hw1 ra1 hR (fun r_59 u_60 u_61 gn_62 => ⟨r_59, I, L, rfl, rfl, ?_⟩)
        replace hg := gt_let gn_62 hg
        clear gn_62
        have b_63 : 0 ≤ r_59.toInt ∧ r_59.toInt ≤ 1 := u_60.rg
        refine ⟨fun c_64 => ?_, fun c_64 => ?_⟩
        · have d_65 := iEq c_64
          replace hg := gt_pos (by first | exact d_65 | omega) hg
          exact (hp _ _ hR hf (by first | omega | (intro h; omega) | exact Or.inl rfl | exact Or.inr rfl) (by first | omega | (intro h; omega) | exact Or.inl rfl | exact Or.inr rfl) hg.symm hl)
        · have d_66 := iNe c_64
          replace hg := gt_neg (by first | exact d_66 | omega) hg
          unfold fReform_readSum_33
          replace hg := (eReform_readSum_33).symm.trans hg
          refine y_Tape_valueg hok hw1 ra1 hR (fun r_67 u_68 gn_69 => ⟨r_67, I, L, rfl, rfl, ?_⟩)
          replace hg := gt_let gn_69 hg
          clear gn_69
          have sg := u_61 (by omega)
          have vq := iEq u_68
          have v_70 : (0 : Int) ≤ r_67.toInt ∧ r_67.toInt ≤ 127 := by omega
          refine y_Tape_stepg hok hw1 ra1 hR (fun I_75 L_76 hR_77 fr_78 u_72 gn_73 ln_74 => ⟨I_75, L_76, rfl, rfl, ?_⟩)
          replace hl := hl.call ln_74 (fun c hc => by first | exact hc | exact False.elim hc | (dsimp only at hc ⊢; omega) | omega)
          replace hg := gt_b3 gn_73 hg
          clear gn_73
          have hf_79 : Fm (fun c => (o ≤ c ∧ c < o + 5) ∨ c = x1) I0 I_75 := hf.call fr_78 (fun c hc => by first | exact hc | (dsimp only at hc ⊢; omega) | omega)
          have t_80 : (I_75 o 6).toInt = (I o 6).toInt := by rw [fr_78 o (by first | omega | (dsimp only; omega))]
          have t_81 : (I_75 o 8).toInt = (I o 8).toInt := by rw [fr_78 o (by first | omega | (dsimp only; omega))]
          have k_82 : TokOK I_75 x1 := hi4.fr (fr_78 _ (by first | omega | (dsimp only; omega))) (fr_78 _ (by first | omega | (dsimp only; omega)))
          refine cReform_readTerm I_75 L_76 _ _ hR_77 k_82 (by omega) (by omega) (fun I_83 L_84 hR_85 fr_86 k6_90 k8_91 eg_88 lz_89 => ⟨I_83, L_84, rfl, rfl, ?_⟩)
          replace hg := gt_b3 eg_88 hg
          clear eg_88
          replace hl := hl.call lz_89 (fun c hc => False.elim hc)
          have hf_87 : Fm (fun c => (o ≤ c ∧ c < o + 5) ∨ c = x1) I0 I_83 := hf_79.call fr_86 (fun c hc => hc)
          have k_92 : TokOK I_83 x1 := k_82.fr (fr_86 _ (by first | omega | (dsimp only; omega))) (fr_86 _ (by first | omega | (dsimp only; omega)))
          refine y_Reform_emitg hok hw ra (by first | omega | (intro h; omega) | exact Or.inl rfl | exact Or.inr rfl) hR_85 (fun I_98 L_99 hR_100 fr_101 u_94 u_95 gn_96 ln_97 => ⟨I_98, L_99, rfl, rfl, ?_⟩)
          replace hl := hl.call ln_97 (fun c hc => by first | exact hc | exact False.elim hc | (dsimp only at hc ⊢; omega) | omega)
          replace hg := gt_b3 gn_96 hg
          clear gn_96
          have hf_102 : Fm (fun c => (o ≤ c ∧ c < o + 5) ∨ c = x1) I0 I_98 := hf_87.call fr_101 (fun c hc => by first | exact hc | (dsimp only at hc ⊢; omega) | omega)
          have g_103 : (0 : Int) ≤ (I_98 o 6).toInt ∧ (I_98 o 6).toInt ≤ 5 := hR_100.at0 ra 6 (by decide)
          have g_104 : (-1 : Int) ≤ (I_98 o 8).toInt ∧ (I_98 o 8).toInt ≤ 10 := hR_100.at0 ra 8 (by decide)
          have k_105 : TokOK I_98 x1 := k_92.fr (fr_101 _ (by first | omega | (dsimp only; omega))) (fr_101 _ (by first | omega | (dsimp only; omega)))
          have a_107 : (x3 + Int32.ofInt 1).toInt = x3.toInt + (1) := tIc (by omega) (by omega) (by decide) (by decide)
          generalize ez_106 : (x3 + Int32.ofInt 1) = z_106 at a_107 ⊢
          replace hg := gt_let (y := z_106.toInt) (by omega) hg
          exact ih hR_100 hf_102 (by first | omega | (intro h; omega) | exact Or.inl rfl | exact Or.inr rfl) (by first | omega | (intro h; omega) | exact Or.inl rfl | exact Or.inr rfl) (by first | omega | (intro h; omega) | exact Or.inl rfl | exact Or.inr rfl) rfl k_105 hl hg (by omega)
set_option maxHeartbeats 4000000 in
set_option maxRecDepth 20000 in
theorem y_Reform_readSumg {D : va_G} {cA : FieldType → ClassId} {b : Nat} {E : State → Prop} {R : qRg} {o n : Nat} {sh : Nat → qC} {Rf : Nat → Nat → Option Nat} {I0 : Nat → Nat → Int32} {L0 : Nat → Nat → Int64} {post : Option Value → qS → Prop} {x1 : Nat} {p2 : Int32} (hok : q_ok (qGG D cA b E)) (hw : WfReform (qGG D cA b E) n sh Rf o) (ra : RAReform R o) (hw1 : WfTape (qGG D cA b E) n sh Rf x1) (ra1 : RATape R x1) {d : Nat} {lo : Int} {RReform_readTerm : gJ → gL → Int → Int × gJ × gL} (hd0 : 5 ≤ d) (cReform_readTerm : ∀ (J : Nat → Nat → Int32) (K : Nat → Nat → Int64) (post : Option Value → qS → Prop) (q : Int32), RI R J → TokOK J x1 → lo ≤ q.toInt → q.toInt ≤ 7 → (∀ I' L', RI R I' → Fm (fun c => (o ≤ c ∧ c < o + 5) ∨ c = x1) J I' → (I' o 6).toInt = (J o 6).toInt → (I' o 8).toInt = (J o 8).toInt → (RReform_readTerm (tI J) K q.toInt = (0, tI I', L')) → (FmL (fun c => False) K L') → post none (n, sh, Rf, I', L')) → Ev (qGG D cA b E) mReform_readTerm d (0, 0) 0 (lv_args 0 [.ref o, .ref x1, .int q]) [] (n, sh, Rf, J, K) post) (hs0 : o + 5 ≤ x1 ∨ x1 + 7 ≤ o) (hs1 : 0 ≤ lo) (hq0 : lo ≤ p2.toInt) (hq1 : p2.toInt ≤ 7) (hq2 : TokOK I0 x1) (hR : RI R I0) (hp : ∀ (I' : Nat → Nat → Int32) (L' : Nat → Nat → Int64), RI R I' → Fm (fun c => (o ≤ c ∧ c < o + 5) ∨ c = x1) I0 I' → ((I' o 6).toInt = (I0 o 6).toInt) → ((I' o 8).toInt = (I0 o 8).toInt) → (gReform_readSum_0 RReform_readTerm o x1 (tI I0) L0 (p2).toInt = (0, tI I', L')) → (FmL (fun c => False) L0 L') → post none (n, sh, Rf, I', L')) : Ev (qGG D cA b E) mReform_readSum (d + 1) (0, 0) 0 (lv_args 0 [.ref o, .ref x1, .int p2]) [] (n, sh, Rf, I0, L0) post := by
  have hf : Fm (fun c => (o ≤ c ∧ c < o + 5) ∨ c = x1) I0 I0 := Fm.rf
  have g_108 : (0 : Int) ≤ (I0 o 6).toInt ∧ (I0 o 6).toInt ≤ 5 := hR.at0 ra 6 (by decide)
  have g_109 : (-1 : Int) ≤ (I0 o 8).toInt ∧ (I0 o 8).toInt ≤ 10 := hR.at0 ra 8 (by decide)
  refine sReform_readSum_0 o n sh Rf I0 L0 post x1 p2 d hok hw hw1 hd0 ?_
  unfold fReform_readSum_0
  have hl : FmL (fun c => False) L0 L0 := FmL.rf
  have hg : gReform_readSum_0 RReform_readTerm o x1 (tI I0) L0 (p2).toInt = gReform_readSum_0 RReform_readTerm o x1 (tI I0) L0 (p2).toInt := rfl
  replace hg := (eReform_readSum_0).symm.trans hg
  refine cReform_readTerm I0 L0 _ _ hR hq2 (by omega) (by omega) (fun I_110 L_111 hR_112 fr_113 k6_117 k8_118 eg_115 lz_116 => ⟨I_110, L_111, rfl, rfl, ?_⟩)
  replace hg := gt_b3 eg_115 hg
  clear eg_115
  replace hl := hl.call lz_116 (fun c hc => False.elim hc)
  have hf_114 : Fm (fun c => (o ≤ c ∧ c < o + 5) ∨ c = x1) I0 I_110 := hf.call fr_113 (fun c hc => hc)
  have k_119 : TokOK I_110 x1 := hq2.fr (fr_113 _ (by first | omega | (dsimp only; omega))) (fr_113 _ (by first | omega | (dsimp only; omega)))
  have l_120 : (0 : Int32).toInt = 0 := rfl
  exact yReform_readSum_8g (I0 := I0) (L0 := L0) (p2 := p2) hok hw ra hw1 ra1 hd0 cReform_readTerm hs0 hs1 hq0 hq1 hq2 hp  20000 hR_112 hf_114 (by first | omega | (intro h; omega) | exact Or.inl rfl | exact Or.inr rfl) (by first | omega | (intro h; omega) | exact Or.inl rfl | exact Or.inr rfl) (by first | omega | (intro h; omega) | exact Or.inl rfl | exact Or.inr rfl) rfl k_119 hl hg (by omega)
noncomputable def gReform_readTerm_33 (K8 : gJ → gL → Int → Int → (Int × gJ × gL)) (RReform_readUnit : gJ → gL → Int → Int × gJ × gL) (o x1 : Nat) (J : gJ) (L : gL) (x2 : Int) (x3 : Int) : Int × gJ × gL := gLet (gTape_value_0 x1 J L) (fun (r_1 : Int) => gB3 (gTape_step_0 x1 J L) (fun r_2 J_3 L_4 => gB3 (RReform_readUnit J_3 L_4 x2) (fun r_5 J_6 L_7 => gB3 (gReform_emit_0 o J_6 L_7 r_1) (fun r_8 J_9 L_10 => gLet (x3 + 1) (fun (v_11 : Int) => (K8 J_9 L_10 x2 v_11))))))
theorem eReform_readTerm_33 {K8 : gJ → gL → Int → Int → (Int × gJ × gL)} {RReform_readUnit : gJ → gL → Int → Int × gJ × gL} {o x1 : Nat} {J : gJ} {L : gL} {x2 : Int} {x3 : Int} : gReform_readTerm_33 K8 RReform_readUnit o x1 J L x2 x3 = gLet (gTape_value_0 x1 J L) (fun (r_1 : Int) => gB3 (gTape_step_0 x1 J L) (fun r_2 J_3 L_4 => gB3 (RReform_readUnit J_3 L_4 x2) (fun r_5 J_6 L_7 => gB3 (gReform_emit_0 o J_6 L_7 r_1) (fun r_8 J_9 L_10 => gLet (x3 + 1) (fun (v_11 : Int) => (K8 J_9 L_10 x2 v_11)))))) := rfl
noncomputable def gReform_readTerm_8 (k : Nat) (RReform_readUnit : gJ → gL → Int → Int × gJ × gL) (o x1 : Nat) (J : gJ) (L : gL) (x2 : Int) (x3 : Int) : Int × gJ × gL := match k with
  | 0 => default
  | k + 1 => (if 700 ≤ x3 then (0, J, L) else gLet (gTape_isSign_0 x1 J L 42) (fun (r_1 : Int) => (if r_1 = 0 then gLet (gTape_isSign_0 x1 J L 47) (fun (r_2 : Int) => (if r_2 = 0 then (0, J, L) else (gReform_readTerm_33 (gReform_readTerm_8 k RReform_readUnit o x1) RReform_readUnit o x1 J L x2 x3))) else (gReform_readTerm_33 (gReform_readTerm_8 k RReform_readUnit o x1) RReform_readUnit o x1 J L x2 x3))))
theorem eReform_readTerm_8 {k : Nat} {RReform_readUnit : gJ → gL → Int → Int × gJ × gL} {o x1 : Nat} {J : gJ} {L : gL} {x2 : Int} {x3 : Int} : gReform_readTerm_8 (k + 1) RReform_readUnit o x1 J L x2 x3 = (if 700 ≤ x3 then (0, J, L) else gLet (gTape_isSign_0 x1 J L 42) (fun (r_1 : Int) => (if r_1 = 0 then gLet (gTape_isSign_0 x1 J L 47) (fun (r_2 : Int) => (if r_2 = 0 then (0, J, L) else (gReform_readTerm_33 (gReform_readTerm_8 k RReform_readUnit o x1) RReform_readUnit o x1 J L x2 x3))) else (gReform_readTerm_33 (gReform_readTerm_8 k RReform_readUnit o x1) RReform_readUnit o x1 J L x2 x3)))) := rfl
noncomputable def gReform_readTerm_0 (RReform_readUnit : gJ → gL → Int → Int × gJ × gL) (o x1 : Nat) (J : gJ) (L : gL) (x2 : Int) : Int × gJ × gL := gB3 (RReform_readUnit J L x2) (fun r_1 J_2 L_3 => (gReform_readTerm_8 20000 RReform_readUnit o x1 J_2 L_3 x2 0))
theorem eReform_readTerm_0 {RReform_readUnit : gJ → gL → Int → Int × gJ × gL} {o x1 : Nat} {J : gJ} {L : gL} {x2 : Int} : gReform_readTerm_0 RReform_readUnit o x1 J L x2 = gB3 (RReform_readUnit J L x2) (fun r_1 J_2 L_3 => (gReform_readTerm_8 20000 RReform_readUnit o x1 J_2 L_3 x2 0)) := rfl
set_option maxHeartbeats 4000000 in
set_option maxRecDepth 20000 in
theorem yReform_readTerm_8g {D : va_G} {cA : FieldType → ClassId} {b : Nat} {E : State → Prop} {R : qRg} {o n : Nat} {sh : Nat → qC} {Rf : Nat → Nat → Option Nat} {I0 : Nat → Nat → Int32} {L0 : Nat → Nat → Int64} {post : Option Value → qS → Prop} {x1 : Nat} {p2 : Int32} (hok : q_ok (qGG D cA b E)) (hw : WfReform (qGG D cA b E) n sh Rf o) (ra : RAReform R o) (hw1 : WfTape (qGG D cA b E) n sh Rf x1) (ra1 : RATape R x1) {d : Nat} {lo : Int} {RReform_readUnit : gJ → gL → Int → Int × gJ × gL} (hd0 : 5 ≤ d) (cReform_readUnit : ∀ (J : Nat → Nat → Int32) (K : Nat → Nat → Int64) (post : Option Value → qS → Prop) (q : Int32), RI R J → TokOK J x1 → lo ≤ q.toInt → q.toInt ≤ 7 → (∀ I' L', RI R I' → Fm (fun c => (o ≤ c ∧ c < o + 5) ∨ c = x1) J I' → (I' o 6).toInt = (J o 6).toInt → (I' o 8).toInt = (J o 8).toInt → (RReform_readUnit (tI J) K q.toInt = (0, tI I', L')) → (FmL (fun c => False) K L') → post none (n, sh, Rf, I', L')) → Ev (qGG D cA b E) mReform_readUnit d (0, 0) 0 (lv_args 0 [.ref o, .ref x1, .int q]) [] (n, sh, Rf, J, K) post) (hs0 : o + 5 ≤ x1 ∨ x1 + 7 ≤ o) (hs1 : 0 ≤ lo) (hq0 : lo ≤ p2.toInt) (hq1 : p2.toInt ≤ 7) (hq2 : TokOK I0 x1) (hp : ∀ (I' : Nat → Nat → Int32) (L' : Nat → Nat → Int64), RI R I' → Fm (fun c => (o ≤ c ∧ c < o + 5) ∨ c = x1) I0 I' → ((I' o 6).toInt = (I0 o 6).toInt) → ((I' o 8).toInt = (I0 o 8).toInt) → (gReform_readTerm_0 RReform_readUnit o x1 (tI I0) L0 (p2).toInt = (0, tI I', L')) → (FmL (fun c => False) L0 L') → post none (n, sh, Rf, I', L')) : ∀ (k : Nat) {x2 : Int32} {x3 : Int32} {I : Nat → Nat → Int32} {L : Nat → Nat → Int64}, RI R I → Fm (fun c => (o ≤ c ∧ c < o + 5) ∨ c = x1) I0 I → ((0 : Int) ≤ x3.toInt ∧ x3.toInt ≤ 700) → ((I o 6).toInt = (I0 o 6).toInt) → ((I o 8).toInt = (I0 o 8).toInt) → (x2 = p2) → (TokOK I x1) → (FmL (fun c => False) L0 L) → (gReform_readTerm_8 k RReform_readUnit o x1 (tI I) L (x2).toInt (x3).toInt = gReform_readTerm_0 RReform_readUnit o x1 (tI I0) L0 (p2).toInt) → (700 - x3.toInt).toNat < k → Ev (qGG D cA b E) mReform_readTerm (d + 1) (0, 0) 8 [(0, .ref o), (1, .ref x1), (2, .int x2), (3, .int x3)] [] (n, sh, Rf, I, L) post := by
  intro k
  induction k with
  | zero =>
    intro x2 x3 I L hR hf hi0 hi1 hi2 hi3 hi4 hl hg hm
    exact absurd hm (Nat.not_lt_zero _)
  | succ k ih =>
    intro x2 x3 I L hR hf hi0 hi1 hi2 hi3 hi4 hl hg hm
    have hz0 := hi3.symm
    subst hz0
    have g_1 : (0 : Int) ≤ (I o 6).toInt ∧ (I o 6).toInt ≤ 5 := hR.at0 ra 6 (by decide)
    have g_2 : (-1 : Int) ≤ (I o 8).toInt ∧ (I o 8).toInt ≤ 10 := hR.at0 ra 8 (by decide)
    refine sReform_readTerm_8 o n sh Rf I L post x1 p2 x3 d hok hw hw1 hd0 ?_
    unfold fReform_readTerm_8
    replace hg := (eReform_readTerm_8).symm.trans hg
    have l_3 : (700 : Int32).toInt = 700 := rfl
    refine ⟨fun c_4 => ?_, fun c_4 => ?_⟩
    · have d_5 := iLe c_4
      replace hg := gt_pos (by first | exact d_5 | omega) hg
      exact (hp _ _ hR hf (by first | omega | (intro h; omega) | exact Or.inl rfl | exact Or.inr rfl) (by first | omega | (intro h; omega) | exact Or.inl rfl | exact Or.inr rfl) hg.symm hl)
    · have d_6 := iNle c_4
      replace hg := gt_neg (by first | exact d_6 | omega) hg
      have l_7 : (42 : Int32).toInt = 42 := rfl
      refine y_Tape_isSigng hok hw1 ra1 hR (fun r_8 u_9 u_10 gn_11 => ⟨r_8, I, L, rfl, rfl, ?_⟩)
      replace hg := gt_let gn_11 hg
      clear gn_11
      have b_12 : 0 ≤ r_8.toInt ∧ r_8.toInt ≤ 1 := u_9.rg
      have l_13 : (0 : Int32).toInt = 0 := rfl
      refine ⟨fun c_14 => ?_, fun c_14 => ?_⟩
      · have d_15 := iNe c_14
        replace hg := gt_neg (by first | exact d_15 | omega) hg
        unfold fReform_readTerm_33
        replace hg := (eReform_readTerm_33).symm.trans hg
        refine y_Tape_valueg hok hw1 ra1 hR (fun r_16 u_17 gn_18 => ⟨r_16, I, L, rfl, rfl, ?_⟩)
        replace hg := gt_let gn_18 hg
        clear gn_18
        have sg := u_10 (by omega)
        have vq := iEq u_17
        have v_19 : (0 : Int) ≤ r_16.toInt ∧ r_16.toInt ≤ 127 := by omega
        refine y_Tape_stepg hok hw1 ra1 hR (fun I_24 L_25 hR_26 fr_27 u_21 gn_22 ln_23 => ⟨I_24, L_25, rfl, rfl, ?_⟩)
        replace hl := hl.call ln_23 (fun c hc => by first | exact hc | exact False.elim hc | (dsimp only at hc ⊢; omega) | omega)
        replace hg := gt_b3 gn_22 hg
        clear gn_22
        have hf_28 : Fm (fun c => (o ≤ c ∧ c < o + 5) ∨ c = x1) I0 I_24 := hf.call fr_27 (fun c hc => by first | exact hc | (dsimp only at hc ⊢; omega) | omega)
        have t_29 : (I_24 o 6).toInt = (I o 6).toInt := by rw [fr_27 o (by first | omega | (dsimp only; omega))]
        have t_30 : (I_24 o 8).toInt = (I o 8).toInt := by rw [fr_27 o (by first | omega | (dsimp only; omega))]
        have k_31 : TokOK I_24 x1 := hi4.fr (fr_27 _ (by first | omega | (dsimp only; omega))) (fr_27 _ (by first | omega | (dsimp only; omega)))
        refine cReform_readUnit I_24 L_25 _ _ hR_26 k_31 (by omega) (by omega) (fun I_32 L_33 hR_34 fr_35 k6_39 k8_40 eg_37 lz_38 => ⟨I_32, L_33, rfl, rfl, ?_⟩)
        replace hg := gt_b3 eg_37 hg
        clear eg_37
        replace hl := hl.call lz_38 (fun c hc => False.elim hc)
        have hf_36 : Fm (fun c => (o ≤ c ∧ c < o + 5) ∨ c = x1) I0 I_32 := hf_28.call fr_35 (fun c hc => hc)
        have k_41 : TokOK I_32 x1 := k_31.fr (fr_35 _ (by first | omega | (dsimp only; omega))) (fr_35 _ (by first | omega | (dsimp only; omega)))
        refine y_Reform_emitg hok hw ra (by first | omega | (intro h; omega) | exact Or.inl rfl | exact Or.inr rfl) hR_34 (fun I_47 L_48 hR_49 fr_50 u_43 u_44 gn_45 ln_46 => ⟨I_47, L_48, rfl, rfl, ?_⟩)
        replace hl := hl.call ln_46 (fun c hc => by first | exact hc | exact False.elim hc | (dsimp only at hc ⊢; omega) | omega)
        replace hg := gt_b3 gn_45 hg
        clear gn_45
        have hf_51 : Fm (fun c => (o ≤ c ∧ c < o + 5) ∨ c = x1) I0 I_47 := hf_36.call fr_50 (fun c hc => by first | exact hc | (dsimp only at hc ⊢; omega) | omega)
        have g_52 : (0 : Int) ≤ (I_47 o 6).toInt ∧ (I_47 o 6).toInt ≤ 5 := hR_49.at0 ra 6 (by decide)
        have g_53 : (-1 : Int) ≤ (I_47 o 8).toInt ∧ (I_47 o 8).toInt ≤ 10 := hR_49.at0 ra 8 (by decide)
        have k_54 : TokOK I_47 x1 := k_41.fr (fr_50 _ (by first | omega | (dsimp only; omega))) (fr_50 _ (by first | omega | (dsimp only; omega)))
        have a_56 : (x3 + Int32.ofInt 1).toInt = x3.toInt + (1) := tIc (by omega) (by omega) (by decide) (by decide)
        generalize ez_55 : (x3 + Int32.ofInt 1) = z_55 at a_56 ⊢
        replace hg := gt_let (y := z_55.toInt) (by omega) hg
        exact ih hR_49 hf_51 (by first | omega | (intro h; omega) | exact Or.inl rfl | exact Or.inr rfl) (by first | omega | (intro h; omega) | exact Or.inl rfl | exact Or.inr rfl) (by first | omega | (intro h; omega) | exact Or.inl rfl | exact Or.inr rfl) rfl k_54 hl hg (by omega)
      · have d_57 := iEq c_14
        replace hg := gt_pos (by first | exact d_57 | omega) hg
        have l_58 : (47 : Int32).toInt = 47 := rfl
        refine y_Tape_isSigng hok hw1 ra1 hR (fun r_59 u_60 u_61 gn_62 => ⟨r_59, I, L, rfl, rfl, ?_⟩)
        replace hg := gt_let gn_62 hg
        clear gn_62
        have b_63 : 0 ≤ r_59.toInt ∧ r_59.toInt ≤ 1 := u_60.rg
        refine ⟨fun c_64 => ?_, fun c_64 => ?_⟩
        · have d_65 := iEq c_64
          replace hg := gt_pos (by first | exact d_65 | omega) hg
          exact (hp _ _ hR hf (by first | omega | (intro h; omega) | exact Or.inl rfl | exact Or.inr rfl) (by first | omega | (intro h; omega) | exact Or.inl rfl | exact Or.inr rfl) hg.symm hl)
        · have d_66 := iNe c_64
          replace hg := gt_neg (by first | exact d_66 | omega) hg
          unfold fReform_readTerm_33
          replace hg := (eReform_readTerm_33).symm.trans hg
          refine y_Tape_valueg hok hw1 ra1 hR (fun r_67 u_68 gn_69 => ⟨r_67, I, L, rfl, rfl, ?_⟩)
          replace hg := gt_let gn_69 hg
          clear gn_69
          have sg := u_61 (by omega)
          have vq := iEq u_68
          have v_70 : (0 : Int) ≤ r_67.toInt ∧ r_67.toInt ≤ 127 := by omega
          refine y_Tape_stepg hok hw1 ra1 hR (fun I_75 L_76 hR_77 fr_78 u_72 gn_73 ln_74 => ⟨I_75, L_76, rfl, rfl, ?_⟩)
          replace hl := hl.call ln_74 (fun c hc => by first | exact hc | exact False.elim hc | (dsimp only at hc ⊢; omega) | omega)
          replace hg := gt_b3 gn_73 hg
          clear gn_73
          have hf_79 : Fm (fun c => (o ≤ c ∧ c < o + 5) ∨ c = x1) I0 I_75 := hf.call fr_78 (fun c hc => by first | exact hc | (dsimp only at hc ⊢; omega) | omega)
          have t_80 : (I_75 o 6).toInt = (I o 6).toInt := by rw [fr_78 o (by first | omega | (dsimp only; omega))]
          have t_81 : (I_75 o 8).toInt = (I o 8).toInt := by rw [fr_78 o (by first | omega | (dsimp only; omega))]
          have k_82 : TokOK I_75 x1 := hi4.fr (fr_78 _ (by first | omega | (dsimp only; omega))) (fr_78 _ (by first | omega | (dsimp only; omega)))
          refine cReform_readUnit I_75 L_76 _ _ hR_77 k_82 (by omega) (by omega) (fun I_83 L_84 hR_85 fr_86 k6_90 k8_91 eg_88 lz_89 => ⟨I_83, L_84, rfl, rfl, ?_⟩)
          replace hg := gt_b3 eg_88 hg
          clear eg_88
          replace hl := hl.call lz_89 (fun c hc => False.elim hc)
          have hf_87 : Fm (fun c => (o ≤ c ∧ c < o + 5) ∨ c = x1) I0 I_83 := hf_79.call fr_86 (fun c hc => hc)
          have k_92 : TokOK I_83 x1 := k_82.fr (fr_86 _ (by first | omega | (dsimp only; omega))) (fr_86 _ (by first | omega | (dsimp only; omega)))
          refine y_Reform_emitg hok hw ra (by first | omega | (intro h; omega) | exact Or.inl rfl | exact Or.inr rfl) hR_85 (fun I_98 L_99 hR_100 fr_101 u_94 u_95 gn_96 ln_97 => ⟨I_98, L_99, rfl, rfl, ?_⟩)
          replace hl := hl.call ln_97 (fun c hc => by first | exact hc | exact False.elim hc | (dsimp only at hc ⊢; omega) | omega)
          replace hg := gt_b3 gn_96 hg
          clear gn_96
          have hf_102 : Fm (fun c => (o ≤ c ∧ c < o + 5) ∨ c = x1) I0 I_98 := hf_87.call fr_101 (fun c hc => by first | exact hc | (dsimp only at hc ⊢; omega) | omega)
          have g_103 : (0 : Int) ≤ (I_98 o 6).toInt ∧ (I_98 o 6).toInt ≤ 5 := hR_100.at0 ra 6 (by decide)
          have g_104 : (-1 : Int) ≤ (I_98 o 8).toInt ∧ (I_98 o 8).toInt ≤ 10 := hR_100.at0 ra 8 (by decide)
          have k_105 : TokOK I_98 x1 := k_92.fr (fr_101 _ (by first | omega | (dsimp only; omega))) (fr_101 _ (by first | omega | (dsimp only; omega)))
          have a_107 : (x3 + Int32.ofInt 1).toInt = x3.toInt + (1) := tIc (by omega) (by omega) (by decide) (by decide)
          generalize ez_106 : (x3 + Int32.ofInt 1) = z_106 at a_107 ⊢
          replace hg := gt_let (y := z_106.toInt) (by omega) hg
          exact ih hR_100 hf_102 (by first | omega | (intro h; omega) | exact Or.inl rfl | exact Or.inr rfl) (by first | omega | (intro h; omega) | exact Or.inl rfl | exact Or.inr rfl) (by first | omega | (intro h; omega) | exact Or.inl rfl | exact Or.inr rfl) rfl k_105 hl hg (by omega)
set_option maxHeartbeats 4000000 in
set_option maxRecDepth 20000 in
theorem y_Reform_readTermg {D : va_G} {cA : FieldType → ClassId} {b : Nat} {E : State → Prop} {R : qRg} {o n : Nat} {sh : Nat → qC} {Rf : Nat → Nat → Option Nat} {I0 : Nat → Nat → Int32} {L0 : Nat → Nat → Int64} {post : Option Value → qS → Prop} {x1 : Nat} {p2 : Int32} (hok : q_ok (qGG D cA b E)) (hw : WfReform (qGG D cA b E) n sh Rf o) (ra : RAReform R o) (hw1 : WfTape (qGG D cA b E) n sh Rf x1) (ra1 : RATape R x1) {d : Nat} {lo : Int} {RReform_readUnit : gJ → gL → Int → Int × gJ × gL} (hd0 : 5 ≤ d) (cReform_readUnit : ∀ (J : Nat → Nat → Int32) (K : Nat → Nat → Int64) (post : Option Value → qS → Prop) (q : Int32), RI R J → TokOK J x1 → lo ≤ q.toInt → q.toInt ≤ 7 → (∀ I' L', RI R I' → Fm (fun c => (o ≤ c ∧ c < o + 5) ∨ c = x1) J I' → (I' o 6).toInt = (J o 6).toInt → (I' o 8).toInt = (J o 8).toInt → (RReform_readUnit (tI J) K q.toInt = (0, tI I', L')) → (FmL (fun c => False) K L') → post none (n, sh, Rf, I', L')) → Ev (qGG D cA b E) mReform_readUnit d (0, 0) 0 (lv_args 0 [.ref o, .ref x1, .int q]) [] (n, sh, Rf, J, K) post) (hs0 : o + 5 ≤ x1 ∨ x1 + 7 ≤ o) (hs1 : 0 ≤ lo) (hq0 : lo ≤ p2.toInt) (hq1 : p2.toInt ≤ 7) (hq2 : TokOK I0 x1) (hR : RI R I0) (hp : ∀ (I' : Nat → Nat → Int32) (L' : Nat → Nat → Int64), RI R I' → Fm (fun c => (o ≤ c ∧ c < o + 5) ∨ c = x1) I0 I' → ((I' o 6).toInt = (I0 o 6).toInt) → ((I' o 8).toInt = (I0 o 8).toInt) → (gReform_readTerm_0 RReform_readUnit o x1 (tI I0) L0 (p2).toInt = (0, tI I', L')) → (FmL (fun c => False) L0 L') → post none (n, sh, Rf, I', L')) : Ev (qGG D cA b E) mReform_readTerm (d + 1) (0, 0) 0 (lv_args 0 [.ref o, .ref x1, .int p2]) [] (n, sh, Rf, I0, L0) post := by
  have hf : Fm (fun c => (o ≤ c ∧ c < o + 5) ∨ c = x1) I0 I0 := Fm.rf
  have g_108 : (0 : Int) ≤ (I0 o 6).toInt ∧ (I0 o 6).toInt ≤ 5 := hR.at0 ra 6 (by decide)
  have g_109 : (-1 : Int) ≤ (I0 o 8).toInt ∧ (I0 o 8).toInt ≤ 10 := hR.at0 ra 8 (by decide)
  refine sReform_readTerm_0 o n sh Rf I0 L0 post x1 p2 d hok hw hw1 hd0 ?_
  unfold fReform_readTerm_0
  have hl : FmL (fun c => False) L0 L0 := FmL.rf
  have hg : gReform_readTerm_0 RReform_readUnit o x1 (tI I0) L0 (p2).toInt = gReform_readTerm_0 RReform_readUnit o x1 (tI I0) L0 (p2).toInt := rfl
  replace hg := (eReform_readTerm_0).symm.trans hg
  refine cReform_readUnit I0 L0 _ _ hR hq2 (by omega) (by omega) (fun I_110 L_111 hR_112 fr_113 k6_117 k8_118 eg_115 lz_116 => ⟨I_110, L_111, rfl, rfl, ?_⟩)
  replace hg := gt_b3 eg_115 hg
  clear eg_115
  replace hl := hl.call lz_116 (fun c hc => False.elim hc)
  have hf_114 : Fm (fun c => (o ≤ c ∧ c < o + 5) ∨ c = x1) I0 I_110 := hf.call fr_113 (fun c hc => hc)
  have k_119 : TokOK I_110 x1 := hq2.fr (fr_113 _ (by first | omega | (dsimp only; omega))) (fr_113 _ (by first | omega | (dsimp only; omega)))
  have l_120 : (0 : Int32).toInt = 0 := rfl
  exact yReform_readTerm_8g (I0 := I0) (L0 := L0) (p2 := p2) hok hw ra hw1 ra1 hd0 cReform_readUnit hs0 hs1 hq0 hq1 hq2 hp  20000 hR_112 hf_114 (by first | omega | (intro h; omega) | exact Or.inl rfl | exact Or.inr rfl) (by first | omega | (intro h; omega) | exact Or.inl rfl | exact Or.inr rfl) (by first | omega | (intro h; omega) | exact Or.inl rfl | exact Or.inr rfl) rfl k_119 hl hg (by omega)
noncomputable def gReform_readUnit_95 (RReform_readEither : gJ → gL → Int → Int × gJ × gL) (o x1 : Nat) (J : gJ) (L : gL) (x2 : Int) (x3 : Int) (x4 : Int) : Int × gJ × gL := gLet (J o 7) (fun (v_1 : Int) => gLet (v_1 + 1) (fun (v_2 : Int) => gLet (q_u J o 7 v_2) (fun (J_3 : gJ) => (if x3 = 0 then (if x4 = 0 then gLet (gTape_value_0 x1 J_3 L) (fun (r_4 : Int) => gLet (64 + r_4) (fun (v_5 : Int) => gB3 (gReform_emit_0 o J_3 L v_5) (fun r_6 J_7 L_8 => gB3 (gTape_step_0 x1 J_7 L_8) (fun r_9 J_10 L_11 => (0, J_10, L_11))))) else gLet (gTape_value_0 x1 J_3 L) (fun (r_12 : Int) => gB3 (gReform_emit_0 o J_3 L r_12) (fun r_13 J_14 L_15 => gB3 (gTape_step_0 x1 J_14 L_15) (fun r_16 J_17 L_18 => (0, J_17, L_18))))) else gB3 (gTape_step_0 x1 J_3 L) (fun r_19 J_20 L_21 => gLet (x2 + 1) (fun (v_22 : Int) => gB3 (RReform_readEither J_20 L_21 v_22) (fun r_23 J_24 L_25 => gLet (gTape_isSign_0 x1 J_24 L_25 41) (fun (r_26 : Int) => gB3 (gTape_passIf_0 x1 J_24 L_25 r_26) (fun r_27 J_28 L_29 => (0, J_28, L_29))))))))))
theorem eReform_readUnit_95 {RReform_readEither : gJ → gL → Int → Int × gJ × gL} {o x1 : Nat} {J : gJ} {L : gL} {x2 : Int} {x3 : Int} {x4 : Int} : gReform_readUnit_95 RReform_readEither o x1 J L x2 x3 x4 = gLet (J o 7) (fun (v_1 : Int) => gLet (v_1 + 1) (fun (v_2 : Int) => gLet (q_u J o 7 v_2) (fun (J_3 : gJ) => (if x3 = 0 then (if x4 = 0 then gLet (gTape_value_0 x1 J_3 L) (fun (r_4 : Int) => gLet (64 + r_4) (fun (v_5 : Int) => gB3 (gReform_emit_0 o J_3 L v_5) (fun r_6 J_7 L_8 => gB3 (gTape_step_0 x1 J_7 L_8) (fun r_9 J_10 L_11 => (0, J_10, L_11))))) else gLet (gTape_value_0 x1 J_3 L) (fun (r_12 : Int) => gB3 (gReform_emit_0 o J_3 L r_12) (fun r_13 J_14 L_15 => gB3 (gTape_step_0 x1 J_14 L_15) (fun r_16 J_17 L_18 => (0, J_17, L_18))))) else gB3 (gTape_step_0 x1 J_3 L) (fun r_19 J_20 L_21 => gLet (x2 + 1) (fun (v_22 : Int) => gB3 (RReform_readEither J_20 L_21 v_22) (fun r_23 J_24 L_25 => gLet (gTape_isSign_0 x1 J_24 L_25 41) (fun (r_26 : Int) => gB3 (gTape_passIf_0 x1 J_24 L_25 r_26) (fun r_27 J_28 L_29 => (0, J_28, L_29)))))))))) := rfl
noncomputable def gReform_readUnit_73 (RReform_readEither : gJ → gL → Int → Int × gJ × gL) (o x1 : Nat) (J : gJ) (L : gL) (x2 : Int) (x3 : Int) (x4 : Int) : Int × gJ × gL := (if x4 = 0 then (gReform_readUnit_95 RReform_readEither o x1 J L x2 x3 x4) else gLet (gTape_value_0 x1 J L) (fun (r_1 : Int) => gLet (gReform_mayAsk_0 o J L r_1) (fun (r_2 : Int) => (if r_2 = 0 then gB3 (gTape_refuse_0 x1 J L 5) (fun r_3 J_4 L_5 => (0, J_4, L_5)) else (gReform_readUnit_95 RReform_readEither o x1 J L x2 x3 x4)))))
theorem eReform_readUnit_73 {RReform_readEither : gJ → gL → Int → Int × gJ × gL} {o x1 : Nat} {J : gJ} {L : gL} {x2 : Int} {x3 : Int} {x4 : Int} : gReform_readUnit_73 RReform_readEither o x1 J L x2 x3 x4 = (if x4 = 0 then (gReform_readUnit_95 RReform_readEither o x1 J L x2 x3 x4) else gLet (gTape_value_0 x1 J L) (fun (r_1 : Int) => gLet (gReform_mayAsk_0 o J L r_1) (fun (r_2 : Int) => (if r_2 = 0 then gB3 (gTape_refuse_0 x1 J L 5) (fun r_3 J_4 L_5 => (0, J_4, L_5)) else (gReform_readUnit_95 RReform_readEither o x1 J L x2 x3 x4))))) := rfl
noncomputable def gReform_readUnit_57 (RReform_readEither : gJ → gL → Int → Int × gJ × gL) (o x1 : Nat) (J : gJ) (L : gL) (x2 : Int) (x3 : Int) (x4 : Int) : Int × gJ × gL := (if x3 = 0 then (gReform_readUnit_73 RReform_readEither o x1 J L x2 x3 x4) else (if x2 ≤ 6 then (gReform_readUnit_73 RReform_readEither o x1 J L x2 x3 x4) else gB3 (gTape_refuse_0 x1 J L 2) (fun r_1 J_2 L_3 => (0, J_2, L_3))))
theorem eReform_readUnit_57 {RReform_readEither : gJ → gL → Int → Int × gJ × gL} {o x1 : Nat} {J : gJ} {L : gL} {x2 : Int} {x3 : Int} {x4 : Int} : gReform_readUnit_57 RReform_readEither o x1 J L x2 x3 x4 = (if x3 = 0 then (gReform_readUnit_73 RReform_readEither o x1 J L x2 x3 x4) else (if x2 ≤ 6 then (gReform_readUnit_73 RReform_readEither o x1 J L x2 x3 x4) else gB3 (gTape_refuse_0 x1 J L 2) (fun r_1 J_2 L_3 => (0, J_2, L_3)))) := rfl
noncomputable def gReform_readUnit_30 (RReform_readEither : gJ → gL → Int → Int × gJ × gL) (o x1 : Nat) (J : gJ) (L : gL) (x2 : Int) (x3 : Int) (z0 : Int) : Int × gJ × gL := gLet (J o 7) (fun (v_1 : Int) => (if 100 ≤ v_1 then gB3 (gTape_refuse_0 x1 J L 2) (fun r_2 J_3 L_4 => (0, J_3, L_4)) else (if x3 = 0 then (if z0 = 0 then gLet (gTape_isNumber_0 x1 J L) (fun (r_5 : Int) => (if r_5 = 0 then gB3 (gTape_refuse_0 x1 J L 2) (fun r_6 J_7 L_8 => (0, J_7, L_8)) else (gReform_readUnit_57 RReform_readEither o x1 J L x2 x3 z0))) else (gReform_readUnit_57 RReform_readEither o x1 J L x2 x3 z0)) else (gReform_readUnit_57 RReform_readEither o x1 J L x2 x3 z0))))
theorem eReform_readUnit_30 {RReform_readEither : gJ → gL → Int → Int × gJ × gL} {o x1 : Nat} {J : gJ} {L : gL} {x2 : Int} {x3 : Int} {z0 : Int} : gReform_readUnit_30 RReform_readEither o x1 J L x2 x3 z0 = gLet (J o 7) (fun (v_1 : Int) => (if 100 ≤ v_1 then gB3 (gTape_refuse_0 x1 J L 2) (fun r_2 J_3 L_4 => (0, J_3, L_4)) else (if x3 = 0 then (if z0 = 0 then gLet (gTape_isNumber_0 x1 J L) (fun (r_5 : Int) => (if r_5 = 0 then gB3 (gTape_refuse_0 x1 J L 2) (fun r_6 J_7 L_8 => (0, J_7, L_8)) else (gReform_readUnit_57 RReform_readEither o x1 J L x2 x3 z0))) else (gReform_readUnit_57 RReform_readEither o x1 J L x2 x3 z0)) else (gReform_readUnit_57 RReform_readEither o x1 J L x2 x3 z0)))) := rfl
noncomputable def gReform_readUnit_29 (RReform_readEither : gJ → gL → Int → Int × gJ × gL) (o x1 : Nat) (J : gJ) (L : gL) (x2 : Int) (x3 : Int) : Int × gJ × gL := (gReform_readUnit_30 RReform_readEither o x1 J L x2 x3 0)
theorem eReform_readUnit_29 {RReform_readEither : gJ → gL → Int → Int × gJ × gL} {o x1 : Nat} {J : gJ} {L : gL} {x2 : Int} {x3 : Int} : gReform_readUnit_29 RReform_readEither o x1 J L x2 x3 = (gReform_readUnit_30 RReform_readEither o x1 J L x2 x3 0) := rfl
noncomputable def gReform_readUnit_0 (RReform_readEither : gJ → gL → Int → Int × gJ × gL) (o x1 : Nat) (J : gJ) (L : gL) (x2 : Int) : Int × gJ × gL := gLet (gTape_isSign_0 x1 J L 40) (fun (r_1 : Int) => gLet (gTape_kind_0 x1 J L) (fun (r_2 : Int) => (if r_2 = 1 then gLet (gTape_value_0 x1 J L) (fun (r_3 : Int) => gLet (gReform_isAsked_0  J L r_3) (fun (r_4 : Int) => (if r_4 = 0 then (gReform_readUnit_29 RReform_readEither o x1 J L x2 r_1) else (gReform_readUnit_30 RReform_readEither o x1 J L x2 r_1 1)))) else (gReform_readUnit_29 RReform_readEither o x1 J L x2 r_1))))
theorem eReform_readUnit_0 {RReform_readEither : gJ → gL → Int → Int × gJ × gL} {o x1 : Nat} {J : gJ} {L : gL} {x2 : Int} : gReform_readUnit_0 RReform_readEither o x1 J L x2 = gLet (gTape_isSign_0 x1 J L 40) (fun (r_1 : Int) => gLet (gTape_kind_0 x1 J L) (fun (r_2 : Int) => (if r_2 = 1 then gLet (gTape_value_0 x1 J L) (fun (r_3 : Int) => gLet (gReform_isAsked_0  J L r_3) (fun (r_4 : Int) => (if r_4 = 0 then (gReform_readUnit_29 RReform_readEither o x1 J L x2 r_1) else (gReform_readUnit_30 RReform_readEither o x1 J L x2 r_1 1)))) else (gReform_readUnit_29 RReform_readEither o x1 J L x2 r_1)))) := rfl
set_option maxHeartbeats 4000000 in
set_option maxRecDepth 20000 in
theorem y_Reform_readUnitg {D : va_G} {cA : FieldType → ClassId} {b : Nat} {E : State → Prop} {R : qRg} {o n : Nat} {sh : Nat → qC} {Rf : Nat → Nat → Option Nat} {I0 : Nat → Nat → Int32} {L0 : Nat → Nat → Int64} {post : Option Value → qS → Prop} {x1 : Nat} {p2 : Int32} (hok : q_ok (qGG D cA b E)) (hw : WfReform (qGG D cA b E) n sh Rf o) (ra : RAReform R o) (hw1 : WfTape (qGG D cA b E) n sh Rf x1) (ra1 : RATape R x1) {d : Nat} {lo : Int} {RReform_readEither : gJ → gL → Int → Int × gJ × gL} (hd0 : 5 ≤ d) (cReform_readEither : ∀ (J : Nat → Nat → Int32) (K : Nat → Nat → Int64) (post : Option Value → qS → Prop) (q : Int32), RI R J → TokOK J x1 → (lo + 1) ≤ q.toInt → q.toInt ≤ 7 → (∀ I' L', RI R I' → Fm (fun c => (o ≤ c ∧ c < o + 5) ∨ c = x1) J I' → (I' o 6).toInt = (J o 6).toInt → (I' o 8).toInt = (J o 8).toInt → (RReform_readEither (tI J) K q.toInt = (0, tI I', L')) → (FmL (fun c => False) K L') → post none (n, sh, Rf, I', L')) → Ev (qGG D cA b E) mReform_readEither d (0, 0) 0 (lv_args 0 [.ref o, .ref x1, .int q]) [] (n, sh, Rf, J, K) post) (hs0 : o + 5 ≤ x1 ∨ x1 + 7 ≤ o) (hs1 : 0 ≤ lo) (hq0 : lo ≤ p2.toInt) (hq1 : p2.toInt ≤ 7) (hq2 : TokOK I0 x1) (hR : RI R I0) (hp : ∀ (I' : Nat → Nat → Int32) (L' : Nat → Nat → Int64), RI R I' → Fm (fun c => (o ≤ c ∧ c < o + 5) ∨ c = x1) I0 I' → ((I' o 6).toInt = (I0 o 6).toInt) → ((I' o 8).toInt = (I0 o 8).toInt) → (gReform_readUnit_0 RReform_readEither o x1 (tI I0) L0 (p2).toInt = (0, tI I', L')) → (FmL (fun c => False) L0 L') → post none (n, sh, Rf, I', L')) : Ev (qGG D cA b E) mReform_readUnit (d + 1) (0, 0) 0 (lv_args 0 [.ref o, .ref x1, .int p2]) [] (n, sh, Rf, I0, L0) post := by
  have hf : Fm (fun c => (o ≤ c ∧ c < o + 5) ∨ c = x1) I0 I0 := Fm.rf
  have g_1 : (0 : Int) ≤ (I0 o 6).toInt ∧ (I0 o 6).toInt ≤ 5 := hR.at0 ra 6 (by decide)
  have g_2 : (-1 : Int) ≤ (I0 o 8).toInt ∧ (I0 o 8).toInt ≤ 10 := hR.at0 ra 8 (by decide)
  refine sReform_readUnit_0 o n sh Rf I0 L0 post x1 p2 d hok hw hw1 hd0 ?_
  unfold fReform_readUnit_0
  have hl : FmL (fun c => False) L0 L0 := FmL.rf
  have hg : gReform_readUnit_0 RReform_readEither o x1 (tI I0) L0 (p2).toInt = gReform_readUnit_0 RReform_readEither o x1 (tI I0) L0 (p2).toInt := rfl
  replace hg := (eReform_readUnit_0).symm.trans hg
  have l_3 : (40 : Int32).toInt = 40 := rfl
  refine y_Tape_isSigng hok hw1 ra1 hR (fun r_4 u_5 u_6 gn_7 => ⟨r_4, I0, L0, rfl, rfl, ?_⟩)
  replace hg := gt_let gn_7 hg
  clear gn_7
  have b_8 : 0 ≤ r_4.toInt ∧ r_4.toInt ≤ 1 := u_5.rg
  refine y_Tape_kindg hok hw1 ra1 hR (fun r_9 u_10 gn_11 => ⟨r_9, I0, L0, rfl, rfl, ?_⟩)
  replace hg := gt_let gn_11 hg
  clear gn_11
  have l_12 : (1 : Int32).toInt = 1 := rfl
  refine ⟨fun c_13 => ?_, fun c_13 => ?_⟩
  · have d_14 := iNe c_13
    replace hg := gt_neg (by first | exact d_14 | omega) hg
    unfold fReform_readUnit_29
    replace hg := (eReform_readUnit_29).symm.trans hg
    unfold fReform_readUnit_30
    replace hg := (eReform_readUnit_30).symm.trans hg
    have l_15 : (0 : Int32).toInt = 0 := rfl
    have g_16 : (0 : Int) ≤ (I0 o 7).toInt ∧ (I0 o 7).toInt ≤ 100 := hR.at0 ra 7 (by decide)
    replace hg := gt_let (y := (I0 o 7).toInt) rfl hg
    have l_17 : (100 : Int32).toInt = 100 := rfl
    refine ⟨fun c_18 => ?_, fun c_18 => ?_⟩
    · have d_19 := iLe c_18
      replace hg := gt_pos (by first | exact d_19 | omega) hg
      have l_20 : (2 : Int32).toInt = 2 := rfl
      refine y_Tape_refuseg hok hw1 ra1 (by first | omega | (intro h; omega) | exact Or.inl rfl | exact Or.inr rfl) hR (fun I_26 L_27 hR_28 fr_29 u_22 u_23 gn_24 ln_25 => ⟨I_26, L_27, rfl, rfl, ?_⟩)
      replace hl := hl.call ln_25 (fun c hc => by first | exact hc | exact False.elim hc | (dsimp only at hc ⊢; omega) | omega)
      replace hg := gt_b3 gn_24 hg
      clear gn_24
      have hf_30 : Fm (fun c => (o ≤ c ∧ c < o + 5) ∨ c = x1) I0 I_26 := hf.call fr_29 (fun c hc => by first | exact hc | (dsimp only at hc ⊢; omega) | omega)
      have t_31 : (I_26 o 6).toInt = (I0 o 6).toInt := by rw [fr_29 o (by first | omega | (dsimp only; omega))]
      have t_32 : (I_26 o 8).toInt = (I0 o 8).toInt := by rw [fr_29 o (by first | omega | (dsimp only; omega))]
      have t_33 : (I_26 o 7).toInt = (I0 o 7).toInt := by rw [fr_29 o (by first | omega | (dsimp only; omega))]
      have k_34 : TokOK I_26 x1 := hq2.fr (fr_29 _ (by first | omega | (dsimp only; omega))) (fr_29 _ (by first | omega | (dsimp only; omega)))
      exact (hp _ _ hR_28 hf_30 (by first | omega | (intro h; omega) | exact Or.inl rfl | exact Or.inr rfl) (by first | omega | (intro h; omega) | exact Or.inl rfl | exact Or.inr rfl) hg.symm hl)
    · have d_35 := iNle c_18
      replace hg := gt_neg (by first | exact d_35 | omega) hg
      refine ⟨fun c_36 => ?_, fun c_36 => ?_⟩
      · have d_37 := iNe c_36
        replace hg := gt_neg (by first | exact d_37 | omega) hg
        unfold fReform_readUnit_57
        replace hg := (eReform_readUnit_57).symm.trans hg
        refine ⟨fun c_38 => ?_, fun c_38 => ?_⟩
        · have d_39 := iEq c_38
          exfalso; omega
        · have d_40 := iNe c_38
          replace hg := gt_neg (by first | exact d_40 | omega) hg
          have l_41 : (6 : Int32).toInt = 6 := rfl
          refine ⟨fun c_42 => ?_, fun c_42 => ?_⟩
          · have d_43 := iLe c_42
            replace hg := gt_pos (by first | exact d_43 | omega) hg
            unfold fReform_readUnit_73
            replace hg := (eReform_readUnit_73).symm.trans hg
            refine ⟨fun c_44 => ?_, fun c_44 => ?_⟩
            · have d_45 := iEq c_44
              replace hg := gt_pos (by first | exact d_45 | omega) hg
              unfold fReform_readUnit_95
              replace hg := (eReform_readUnit_95).symm.trans hg
              have g_46 : (0 : Int) ≤ (I0 o 7).toInt ∧ (I0 o 7).toInt ≤ 100 := hR.at0 ra 7 (by decide)
              replace hg := gt_let (y := (I0 o 7).toInt) rfl hg
              have a_47 : ((I0 o 7) + 1).toInt = (I0 o 7).toInt + (1 : Int32).toInt := tAdd (by omega) (by omega)
              replace hg := gt_let (y := (((I0 o 7) + 1) : Int32).toInt) (by omega) hg
              refine fun I_48 e_49 => ?_
              replace hg := gt_let (y := tI I_48) (tI_q e_49) hg
              have hR_50 : RI R I_48 := hR.up0 (k := 7) ra (by decide) (Or.inl rfl) e_49 (show (0 : Int) ≤ ((I0 o 7) + 1).toInt by omega) (show ((I0 o 7) + 1).toInt ≤ (100 : Int) by omega)
              have hf_51 : Fm (fun c => (o ≤ c ∧ c < o + 5) ∨ c = x1) I0 I_48 := hf.set (by first | rfl | omega | (dsimp only; omega)) e_49
              have t_52 : (I_48 o 6).toInt = (I0 o 6).toInt := by rw [← e_49, q_u_k (by decide)]
              have t_53 : (I_48 o 8).toInt = (I0 o 8).toInt := by rw [← e_49, q_u_k (by decide)]
              have t_54 : (I_48 o 7).toInt = ((I0 o 7) + 1).toInt := by rw [← e_49, q_u_at]
              have k_55 : TokOK I_48 x1 := hq2.fr (by rw [← e_49]; exact q_u_ne (by omega)) (by rw [← e_49]; exact q_u_ne (by omega))
              have w_56 : I_48 (x1 + 5) = I0 (x1 + 5) := by rw [← e_49, q_u_ne (by omega)]
              have w_57 : I_48 x1 = I0 x1 := by rw [← e_49, q_u_ne (by omega)]
              refine ⟨fun c_58 => ?_, fun c_58 => ?_⟩
              · have d_59 := iEq c_58
                exfalso; omega
              · have d_60 := iNe c_58
                replace hg := gt_neg (by first | exact d_60 | omega) hg
                refine y_Tape_stepg hok hw1 ra1 hR_50 (fun I_65 L_66 hR_67 fr_68 u_62 gn_63 ln_64 => ⟨I_65, L_66, rfl, rfl, ?_⟩)
                replace hl := hl.call ln_64 (fun c hc => by first | exact hc | exact False.elim hc | (dsimp only at hc ⊢; omega) | omega)
                replace hg := gt_b3 gn_63 hg
                clear gn_63
                have hf_69 : Fm (fun c => (o ≤ c ∧ c < o + 5) ∨ c = x1) I0 I_65 := hf_51.call fr_68 (fun c hc => by first | exact hc | (dsimp only at hc ⊢; omega) | omega)
                have t_70 : (I_65 o 6).toInt = (I_48 o 6).toInt := by rw [fr_68 o (by first | omega | (dsimp only; omega))]
                have t_71 : (I_65 o 8).toInt = (I_48 o 8).toInt := by rw [fr_68 o (by first | omega | (dsimp only; omega))]
                have t_72 : (I_65 o 7).toInt = (I_48 o 7).toInt := by rw [fr_68 o (by first | omega | (dsimp only; omega))]
                have k_73 : TokOK I_65 x1 := k_55.fr (fr_68 _ (by first | omega | (dsimp only; omega))) (fr_68 _ (by first | omega | (dsimp only; omega)))
                have a_74 : (p2 + 1).toInt = p2.toInt + (1 : Int32).toInt := tAdd (by omega) (by omega)
                replace hg := gt_let (y := ((p2 + 1) : Int32).toInt) (by omega) hg
                refine cReform_readEither I_65 L_66 _ _ hR_67 k_73 (by omega) (by omega) (fun I_75 L_76 hR_77 fr_78 k6_82 k8_83 eg_80 lz_81 => ⟨I_75, L_76, rfl, rfl, ?_⟩)
                replace hg := gt_b3 eg_80 hg
                clear eg_80
                replace hl := hl.call lz_81 (fun c hc => False.elim hc)
                have hf_79 : Fm (fun c => (o ≤ c ∧ c < o + 5) ∨ c = x1) I0 I_75 := hf_69.call fr_78 (fun c hc => hc)
                have k_84 : TokOK I_75 x1 := k_73.fr (fr_78 _ (by first | omega | (dsimp only; omega))) (fr_78 _ (by first | omega | (dsimp only; omega)))
                have l_85 : (41 : Int32).toInt = 41 := rfl
                refine y_Tape_isSigng hok hw1 ra1 hR_77 (fun r_86 u_87 u_88 gn_89 => ⟨r_86, I_75, L_76, rfl, rfl, ?_⟩)
                replace hg := gt_let gn_89 hg
                clear gn_89
                have b_90 : 0 ≤ r_86.toInt ∧ r_86.toInt ≤ 1 := u_87.rg
                refine y_Tape_passIfg hok hw1 ra1 hR_77 (fun I_95 L_96 hR_97 fr_98 u_92 gn_93 ln_94 => ⟨I_95, L_96, rfl, rfl, ?_⟩)
                replace hl := hl.call ln_94 (fun c hc => by first | exact hc | exact False.elim hc | (dsimp only at hc ⊢; omega) | omega)
                replace hg := gt_b3 gn_93 hg
                clear gn_93
                have hf_99 : Fm (fun c => (o ≤ c ∧ c < o + 5) ∨ c = x1) I0 I_95 := hf_79.call fr_98 (fun c hc => by first | exact hc | (dsimp only at hc ⊢; omega) | omega)
                have t_100 : (I_95 o 6).toInt = (I_75 o 6).toInt := by rw [fr_98 o (by first | omega | (dsimp only; omega))]
                have t_101 : (I_95 o 8).toInt = (I_75 o 8).toInt := by rw [fr_98 o (by first | omega | (dsimp only; omega))]
                have k_102 : TokOK I_95 x1 := k_84.fr (fr_98 _ (by first | omega | (dsimp only; omega))) (fr_98 _ (by first | omega | (dsimp only; omega)))
                exact (hp _ _ hR_97 hf_99 (by first | omega | (intro h; omega) | exact Or.inl rfl | exact Or.inr rfl) (by first | omega | (intro h; omega) | exact Or.inl rfl | exact Or.inr rfl) hg.symm hl)
            · have d_103 := iNe c_44
              exfalso; omega
          · have d_104 := iNle c_42
            replace hg := gt_neg (by first | exact d_104 | omega) hg
            have l_105 : (2 : Int32).toInt = 2 := rfl
            refine y_Tape_refuseg hok hw1 ra1 (by first | omega | (intro h; omega) | exact Or.inl rfl | exact Or.inr rfl) hR (fun I_111 L_112 hR_113 fr_114 u_107 u_108 gn_109 ln_110 => ⟨I_111, L_112, rfl, rfl, ?_⟩)
            replace hl := hl.call ln_110 (fun c hc => by first | exact hc | exact False.elim hc | (dsimp only at hc ⊢; omega) | omega)
            replace hg := gt_b3 gn_109 hg
            clear gn_109
            have hf_115 : Fm (fun c => (o ≤ c ∧ c < o + 5) ∨ c = x1) I0 I_111 := hf.call fr_114 (fun c hc => by first | exact hc | (dsimp only at hc ⊢; omega) | omega)
            have t_116 : (I_111 o 6).toInt = (I0 o 6).toInt := by rw [fr_114 o (by first | omega | (dsimp only; omega))]
            have t_117 : (I_111 o 8).toInt = (I0 o 8).toInt := by rw [fr_114 o (by first | omega | (dsimp only; omega))]
            have t_118 : (I_111 o 7).toInt = (I0 o 7).toInt := by rw [fr_114 o (by first | omega | (dsimp only; omega))]
            have k_119 : TokOK I_111 x1 := hq2.fr (fr_114 _ (by first | omega | (dsimp only; omega))) (fr_114 _ (by first | omega | (dsimp only; omega)))
            exact (hp _ _ hR_113 hf_115 (by first | omega | (intro h; omega) | exact Or.inl rfl | exact Or.inr rfl) (by first | omega | (intro h; omega) | exact Or.inl rfl | exact Or.inr rfl) hg.symm hl)
      · have d_120 := iEq c_36
        replace hg := gt_pos (by first | exact d_120 | omega) hg
        refine ⟨fun c_121 => ?_, fun c_121 => ?_⟩
        · have d_122 := iNe c_121
          exfalso; omega
        · have d_123 := iEq c_121
          replace hg := gt_pos (by first | exact d_123 | omega) hg
          refine y_Tape_isNumberg hok hw1 ra1 hR (fun r_124 u_125 u_126 gn_127 => ⟨r_124, I0, L0, rfl, rfl, ?_⟩)
          replace hg := gt_let gn_127 hg
          clear gn_127
          have b_128 : 0 ≤ r_124.toInt ∧ r_124.toInt ≤ 1 := u_125.rg
          refine ⟨fun c_129 => ?_, fun c_129 => ?_⟩
          · have d_130 := iEq c_129
            replace hg := gt_pos (by first | exact d_130 | omega) hg
            have l_131 : (2 : Int32).toInt = 2 := rfl
            refine y_Tape_refuseg hok hw1 ra1 (by first | omega | (intro h; omega) | exact Or.inl rfl | exact Or.inr rfl) hR (fun I_137 L_138 hR_139 fr_140 u_133 u_134 gn_135 ln_136 => ⟨I_137, L_138, rfl, rfl, ?_⟩)
            replace hl := hl.call ln_136 (fun c hc => by first | exact hc | exact False.elim hc | (dsimp only at hc ⊢; omega) | omega)
            replace hg := gt_b3 gn_135 hg
            clear gn_135
            have hf_141 : Fm (fun c => (o ≤ c ∧ c < o + 5) ∨ c = x1) I0 I_137 := hf.call fr_140 (fun c hc => by first | exact hc | (dsimp only at hc ⊢; omega) | omega)
            have t_142 : (I_137 o 6).toInt = (I0 o 6).toInt := by rw [fr_140 o (by first | omega | (dsimp only; omega))]
            have t_143 : (I_137 o 8).toInt = (I0 o 8).toInt := by rw [fr_140 o (by first | omega | (dsimp only; omega))]
            have t_144 : (I_137 o 7).toInt = (I0 o 7).toInt := by rw [fr_140 o (by first | omega | (dsimp only; omega))]
            have k_145 : TokOK I_137 x1 := hq2.fr (fr_140 _ (by first | omega | (dsimp only; omega))) (fr_140 _ (by first | omega | (dsimp only; omega)))
            exact (hp _ _ hR_139 hf_141 (by first | omega | (intro h; omega) | exact Or.inl rfl | exact Or.inr rfl) (by first | omega | (intro h; omega) | exact Or.inl rfl | exact Or.inr rfl) hg.symm hl)
          · have d_146 := iNe c_129
            replace hg := gt_neg (by first | exact d_146 | omega) hg
            unfold fReform_readUnit_57
            replace hg := (eReform_readUnit_57).symm.trans hg
            have nb := u_126 (by omega)
            have tk := (hq2 (I0 x1 10).toNatClampNeg).1 nb
            refine ⟨fun c_147 => ?_, fun c_147 => ?_⟩
            · have d_148 := iEq c_147
              replace hg := gt_pos (by first | exact d_148 | omega) hg
              unfold fReform_readUnit_73
              replace hg := (eReform_readUnit_73).symm.trans hg
              refine ⟨fun c_149 => ?_, fun c_149 => ?_⟩
              · have d_150 := iEq c_149
                replace hg := gt_pos (by first | exact d_150 | omega) hg
                unfold fReform_readUnit_95
                replace hg := (eReform_readUnit_95).symm.trans hg
                have g_151 : (0 : Int) ≤ (I0 o 7).toInt ∧ (I0 o 7).toInt ≤ 100 := hR.at0 ra 7 (by decide)
                replace hg := gt_let (y := (I0 o 7).toInt) rfl hg
                have a_152 : ((I0 o 7) + 1).toInt = (I0 o 7).toInt + (1 : Int32).toInt := tAdd (by omega) (by omega)
                replace hg := gt_let (y := (((I0 o 7) + 1) : Int32).toInt) (by omega) hg
                refine fun I_153 e_154 => ?_
                replace hg := gt_let (y := tI I_153) (tI_q e_154) hg
                have hR_155 : RI R I_153 := hR.up0 (k := 7) ra (by decide) (Or.inl rfl) e_154 (show (0 : Int) ≤ ((I0 o 7) + 1).toInt by omega) (show ((I0 o 7) + 1).toInt ≤ (100 : Int) by omega)
                have hf_156 : Fm (fun c => (o ≤ c ∧ c < o + 5) ∨ c = x1) I0 I_153 := hf.set (by first | rfl | omega | (dsimp only; omega)) e_154
                have t_157 : (I_153 o 6).toInt = (I0 o 6).toInt := by rw [← e_154, q_u_k (by decide)]
                have t_158 : (I_153 o 8).toInt = (I0 o 8).toInt := by rw [← e_154, q_u_k (by decide)]
                have t_159 : (I_153 o 7).toInt = ((I0 o 7) + 1).toInt := by rw [← e_154, q_u_at]
                have k_160 : TokOK I_153 x1 := hq2.fr (by rw [← e_154]; exact q_u_ne (by omega)) (by rw [← e_154]; exact q_u_ne (by omega))
                have w_161 : I_153 (x1 + 5) = I0 (x1 + 5) := by rw [← e_154, q_u_ne (by omega)]
                have w_162 : I_153 x1 = I0 x1 := by rw [← e_154, q_u_ne (by omega)]
                refine ⟨fun c_163 => ?_, fun c_163 => ?_⟩
                · have d_164 := iEq c_163
                  replace hg := gt_pos (by first | exact d_164 | omega) hg
                  refine ⟨fun c_165 => ?_, fun c_165 => ?_⟩
                  · have d_166 := iEq c_165
                    replace hg := gt_pos (by first | exact d_166 | omega) hg
                    refine y_Tape_valueg hok hw1 ra1 hR_155 (fun r_167 u_168 gn_169 => ⟨r_167, I_153, L0, rfl, rfl, ?_⟩)
                    replace hg := gt_let gn_169 hg
                    clear gn_169
                    have bv := u_168
                    rw [w_161, w_162] at bv
                    have bw := iEq bv
                    have v_170 : (0 : Int) ≤ r_167.toInt ∧ r_167.toInt ≤ 9999 := by omega
                    have l_171 : (64 : Int32).toInt = 64 := rfl
                    have a_172 : (64 + r_167).toInt = (64 : Int32).toInt + r_167.toInt := tAdd (by omega) (by omega)
                    replace hg := gt_let (y := ((64 + r_167) : Int32).toInt) (by omega) hg
                    refine y_Reform_emitg hok hw ra (by first | omega | (intro h; omega) | exact Or.inl rfl | exact Or.inr rfl) hR_155 (fun I_178 L_179 hR_180 fr_181 u_174 u_175 gn_176 ln_177 => ⟨I_178, L_179, rfl, rfl, ?_⟩)
                    replace hl := hl.call ln_177 (fun c hc => by first | exact hc | exact False.elim hc | (dsimp only at hc ⊢; omega) | omega)
                    replace hg := gt_b3 gn_176 hg
                    clear gn_176
                    have hf_182 : Fm (fun c => (o ≤ c ∧ c < o + 5) ∨ c = x1) I0 I_178 := hf_156.call fr_181 (fun c hc => by first | exact hc | (dsimp only at hc ⊢; omega) | omega)
                    have g_183 : (0 : Int) ≤ (I_178 o 6).toInt ∧ (I_178 o 6).toInt ≤ 5 := hR_180.at0 ra 6 (by decide)
                    have g_184 : (-1 : Int) ≤ (I_178 o 8).toInt ∧ (I_178 o 8).toInt ≤ 10 := hR_180.at0 ra 8 (by decide)
                    have g_185 : (0 : Int) ≤ (I_178 o 7).toInt ∧ (I_178 o 7).toInt ≤ 100 := hR_180.at0 ra 7 (by decide)
                    have k_186 : TokOK I_178 x1 := k_160.fr (fr_181 _ (by first | omega | (dsimp only; omega))) (fr_181 _ (by first | omega | (dsimp only; omega)))
                    refine y_Tape_stepg hok hw1 ra1 hR_180 (fun I_191 L_192 hR_193 fr_194 u_188 gn_189 ln_190 => ⟨I_191, L_192, rfl, rfl, ?_⟩)
                    replace hl := hl.call ln_190 (fun c hc => by first | exact hc | exact False.elim hc | (dsimp only at hc ⊢; omega) | omega)
                    replace hg := gt_b3 gn_189 hg
                    clear gn_189
                    have hf_195 : Fm (fun c => (o ≤ c ∧ c < o + 5) ∨ c = x1) I0 I_191 := hf_182.call fr_194 (fun c hc => by first | exact hc | (dsimp only at hc ⊢; omega) | omega)
                    have t_196 : (I_191 o 6).toInt = (I_178 o 6).toInt := by rw [fr_194 o (by first | omega | (dsimp only; omega))]
                    have t_197 : (I_191 o 8).toInt = (I_178 o 8).toInt := by rw [fr_194 o (by first | omega | (dsimp only; omega))]
                    have t_198 : (I_191 o 7).toInt = (I_178 o 7).toInt := by rw [fr_194 o (by first | omega | (dsimp only; omega))]
                    have k_199 : TokOK I_191 x1 := k_186.fr (fr_194 _ (by first | omega | (dsimp only; omega))) (fr_194 _ (by first | omega | (dsimp only; omega)))
                    exact (hp _ _ hR_193 hf_195 (by first | omega | (intro h; omega) | exact Or.inl rfl | exact Or.inr rfl) (by first | omega | (intro h; omega) | exact Or.inl rfl | exact Or.inr rfl) hg.symm hl)
                  · have d_200 := iNe c_165
                    exfalso; omega
                · have d_201 := iNe c_163
                  exfalso; omega
              · have d_202 := iNe c_149
                exfalso; omega
            · have d_203 := iNe c_147
              exfalso; omega
  · have d_204 := iEq c_13
    replace hg := gt_pos (by first | exact d_204 | omega) hg
    refine y_Tape_valueg hok hw1 ra1 hR (fun r_205 u_206 gn_207 => ⟨r_205, I0, L0, rfl, rfl, ?_⟩)
    replace hg := gt_let gn_207 hg
    clear gn_207
    refine y_Reform_isAskedg hok hR (fun r_208 u_209 u_210 gn_211 => ⟨r_208, I0, L0, rfl, rfl, ?_⟩)
    replace hg := gt_let gn_211 hg
    clear gn_211
    have b_212 : 0 ≤ r_208.toInt ∧ r_208.toInt ≤ 1 := u_209.rg
    have l_213 : (0 : Int32).toInt = 0 := rfl
    refine ⟨fun c_214 => ?_, fun c_214 => ?_⟩
    · have d_215 := iEq c_214
      replace hg := gt_pos (by first | exact d_215 | omega) hg
      unfold fReform_readUnit_29
      replace hg := (eReform_readUnit_29).symm.trans hg
      unfold fReform_readUnit_30
      replace hg := (eReform_readUnit_30).symm.trans hg
      have g_216 : (0 : Int) ≤ (I0 o 7).toInt ∧ (I0 o 7).toInt ≤ 100 := hR.at0 ra 7 (by decide)
      replace hg := gt_let (y := (I0 o 7).toInt) rfl hg
      have l_217 : (100 : Int32).toInt = 100 := rfl
      refine ⟨fun c_218 => ?_, fun c_218 => ?_⟩
      · have d_219 := iLe c_218
        replace hg := gt_pos (by first | exact d_219 | omega) hg
        have l_220 : (2 : Int32).toInt = 2 := rfl
        refine y_Tape_refuseg hok hw1 ra1 (by first | omega | (intro h; omega) | exact Or.inl rfl | exact Or.inr rfl) hR (fun I_226 L_227 hR_228 fr_229 u_222 u_223 gn_224 ln_225 => ⟨I_226, L_227, rfl, rfl, ?_⟩)
        replace hl := hl.call ln_225 (fun c hc => by first | exact hc | exact False.elim hc | (dsimp only at hc ⊢; omega) | omega)
        replace hg := gt_b3 gn_224 hg
        clear gn_224
        have hf_230 : Fm (fun c => (o ≤ c ∧ c < o + 5) ∨ c = x1) I0 I_226 := hf.call fr_229 (fun c hc => by first | exact hc | (dsimp only at hc ⊢; omega) | omega)
        have t_231 : (I_226 o 6).toInt = (I0 o 6).toInt := by rw [fr_229 o (by first | omega | (dsimp only; omega))]
        have t_232 : (I_226 o 8).toInt = (I0 o 8).toInt := by rw [fr_229 o (by first | omega | (dsimp only; omega))]
        have t_233 : (I_226 o 7).toInt = (I0 o 7).toInt := by rw [fr_229 o (by first | omega | (dsimp only; omega))]
        have k_234 : TokOK I_226 x1 := hq2.fr (fr_229 _ (by first | omega | (dsimp only; omega))) (fr_229 _ (by first | omega | (dsimp only; omega)))
        exact (hp _ _ hR_228 hf_230 (by first | omega | (intro h; omega) | exact Or.inl rfl | exact Or.inr rfl) (by first | omega | (intro h; omega) | exact Or.inl rfl | exact Or.inr rfl) hg.symm hl)
      · have d_235 := iNle c_218
        replace hg := gt_neg (by first | exact d_235 | omega) hg
        refine ⟨fun c_236 => ?_, fun c_236 => ?_⟩
        · have d_237 := iNe c_236
          replace hg := gt_neg (by first | exact d_237 | omega) hg
          unfold fReform_readUnit_57
          replace hg := (eReform_readUnit_57).symm.trans hg
          refine ⟨fun c_238 => ?_, fun c_238 => ?_⟩
          · have d_239 := iEq c_238
            exfalso; omega
          · have d_240 := iNe c_238
            replace hg := gt_neg (by first | exact d_240 | omega) hg
            have l_241 : (6 : Int32).toInt = 6 := rfl
            refine ⟨fun c_242 => ?_, fun c_242 => ?_⟩
            · have d_243 := iLe c_242
              replace hg := gt_pos (by first | exact d_243 | omega) hg
              unfold fReform_readUnit_73
              replace hg := (eReform_readUnit_73).symm.trans hg
              refine ⟨fun c_244 => ?_, fun c_244 => ?_⟩
              · have d_245 := iEq c_244
                replace hg := gt_pos (by first | exact d_245 | omega) hg
                unfold fReform_readUnit_95
                replace hg := (eReform_readUnit_95).symm.trans hg
                have g_246 : (0 : Int) ≤ (I0 o 7).toInt ∧ (I0 o 7).toInt ≤ 100 := hR.at0 ra 7 (by decide)
                replace hg := gt_let (y := (I0 o 7).toInt) rfl hg
                have a_247 : ((I0 o 7) + 1).toInt = (I0 o 7).toInt + (1 : Int32).toInt := tAdd (by omega) (by omega)
                replace hg := gt_let (y := (((I0 o 7) + 1) : Int32).toInt) (by omega) hg
                refine fun I_248 e_249 => ?_
                replace hg := gt_let (y := tI I_248) (tI_q e_249) hg
                have hR_250 : RI R I_248 := hR.up0 (k := 7) ra (by decide) (Or.inl rfl) e_249 (show (0 : Int) ≤ ((I0 o 7) + 1).toInt by omega) (show ((I0 o 7) + 1).toInt ≤ (100 : Int) by omega)
                have hf_251 : Fm (fun c => (o ≤ c ∧ c < o + 5) ∨ c = x1) I0 I_248 := hf.set (by first | rfl | omega | (dsimp only; omega)) e_249
                have t_252 : (I_248 o 6).toInt = (I0 o 6).toInt := by rw [← e_249, q_u_k (by decide)]
                have t_253 : (I_248 o 8).toInt = (I0 o 8).toInt := by rw [← e_249, q_u_k (by decide)]
                have t_254 : (I_248 o 7).toInt = ((I0 o 7) + 1).toInt := by rw [← e_249, q_u_at]
                have k_255 : TokOK I_248 x1 := hq2.fr (by rw [← e_249]; exact q_u_ne (by omega)) (by rw [← e_249]; exact q_u_ne (by omega))
                have w_256 : I_248 (x1 + 5) = I0 (x1 + 5) := by rw [← e_249, q_u_ne (by omega)]
                have w_257 : I_248 x1 = I0 x1 := by rw [← e_249, q_u_ne (by omega)]
                refine ⟨fun c_258 => ?_, fun c_258 => ?_⟩
                · have d_259 := iEq c_258
                  exfalso; omega
                · have d_260 := iNe c_258
                  replace hg := gt_neg (by first | exact d_260 | omega) hg
                  refine y_Tape_stepg hok hw1 ra1 hR_250 (fun I_265 L_266 hR_267 fr_268 u_262 gn_263 ln_264 => ⟨I_265, L_266, rfl, rfl, ?_⟩)
                  replace hl := hl.call ln_264 (fun c hc => by first | exact hc | exact False.elim hc | (dsimp only at hc ⊢; omega) | omega)
                  replace hg := gt_b3 gn_263 hg
                  clear gn_263
                  have hf_269 : Fm (fun c => (o ≤ c ∧ c < o + 5) ∨ c = x1) I0 I_265 := hf_251.call fr_268 (fun c hc => by first | exact hc | (dsimp only at hc ⊢; omega) | omega)
                  have t_270 : (I_265 o 6).toInt = (I_248 o 6).toInt := by rw [fr_268 o (by first | omega | (dsimp only; omega))]
                  have t_271 : (I_265 o 8).toInt = (I_248 o 8).toInt := by rw [fr_268 o (by first | omega | (dsimp only; omega))]
                  have t_272 : (I_265 o 7).toInt = (I_248 o 7).toInt := by rw [fr_268 o (by first | omega | (dsimp only; omega))]
                  have k_273 : TokOK I_265 x1 := k_255.fr (fr_268 _ (by first | omega | (dsimp only; omega))) (fr_268 _ (by first | omega | (dsimp only; omega)))
                  have a_274 : (p2 + 1).toInt = p2.toInt + (1 : Int32).toInt := tAdd (by omega) (by omega)
                  replace hg := gt_let (y := ((p2 + 1) : Int32).toInt) (by omega) hg
                  refine cReform_readEither I_265 L_266 _ _ hR_267 k_273 (by omega) (by omega) (fun I_275 L_276 hR_277 fr_278 k6_282 k8_283 eg_280 lz_281 => ⟨I_275, L_276, rfl, rfl, ?_⟩)
                  replace hg := gt_b3 eg_280 hg
                  clear eg_280
                  replace hl := hl.call lz_281 (fun c hc => False.elim hc)
                  have hf_279 : Fm (fun c => (o ≤ c ∧ c < o + 5) ∨ c = x1) I0 I_275 := hf_269.call fr_278 (fun c hc => hc)
                  have k_284 : TokOK I_275 x1 := k_273.fr (fr_278 _ (by first | omega | (dsimp only; omega))) (fr_278 _ (by first | omega | (dsimp only; omega)))
                  have l_285 : (41 : Int32).toInt = 41 := rfl
                  refine y_Tape_isSigng hok hw1 ra1 hR_277 (fun r_286 u_287 u_288 gn_289 => ⟨r_286, I_275, L_276, rfl, rfl, ?_⟩)
                  replace hg := gt_let gn_289 hg
                  clear gn_289
                  have b_290 : 0 ≤ r_286.toInt ∧ r_286.toInt ≤ 1 := u_287.rg
                  refine y_Tape_passIfg hok hw1 ra1 hR_277 (fun I_295 L_296 hR_297 fr_298 u_292 gn_293 ln_294 => ⟨I_295, L_296, rfl, rfl, ?_⟩)
                  replace hl := hl.call ln_294 (fun c hc => by first | exact hc | exact False.elim hc | (dsimp only at hc ⊢; omega) | omega)
                  replace hg := gt_b3 gn_293 hg
                  clear gn_293
                  have hf_299 : Fm (fun c => (o ≤ c ∧ c < o + 5) ∨ c = x1) I0 I_295 := hf_279.call fr_298 (fun c hc => by first | exact hc | (dsimp only at hc ⊢; omega) | omega)
                  have t_300 : (I_295 o 6).toInt = (I_275 o 6).toInt := by rw [fr_298 o (by first | omega | (dsimp only; omega))]
                  have t_301 : (I_295 o 8).toInt = (I_275 o 8).toInt := by rw [fr_298 o (by first | omega | (dsimp only; omega))]
                  have k_302 : TokOK I_295 x1 := k_284.fr (fr_298 _ (by first | omega | (dsimp only; omega))) (fr_298 _ (by first | omega | (dsimp only; omega)))
                  exact (hp _ _ hR_297 hf_299 (by first | omega | (intro h; omega) | exact Or.inl rfl | exact Or.inr rfl) (by first | omega | (intro h; omega) | exact Or.inl rfl | exact Or.inr rfl) hg.symm hl)
              · have d_303 := iNe c_244
                exfalso; omega
            · have d_304 := iNle c_242
              replace hg := gt_neg (by first | exact d_304 | omega) hg
              have l_305 : (2 : Int32).toInt = 2 := rfl
              refine y_Tape_refuseg hok hw1 ra1 (by first | omega | (intro h; omega) | exact Or.inl rfl | exact Or.inr rfl) hR (fun I_311 L_312 hR_313 fr_314 u_307 u_308 gn_309 ln_310 => ⟨I_311, L_312, rfl, rfl, ?_⟩)
              replace hl := hl.call ln_310 (fun c hc => by first | exact hc | exact False.elim hc | (dsimp only at hc ⊢; omega) | omega)
              replace hg := gt_b3 gn_309 hg
              clear gn_309
              have hf_315 : Fm (fun c => (o ≤ c ∧ c < o + 5) ∨ c = x1) I0 I_311 := hf.call fr_314 (fun c hc => by first | exact hc | (dsimp only at hc ⊢; omega) | omega)
              have t_316 : (I_311 o 6).toInt = (I0 o 6).toInt := by rw [fr_314 o (by first | omega | (dsimp only; omega))]
              have t_317 : (I_311 o 8).toInt = (I0 o 8).toInt := by rw [fr_314 o (by first | omega | (dsimp only; omega))]
              have t_318 : (I_311 o 7).toInt = (I0 o 7).toInt := by rw [fr_314 o (by first | omega | (dsimp only; omega))]
              have k_319 : TokOK I_311 x1 := hq2.fr (fr_314 _ (by first | omega | (dsimp only; omega))) (fr_314 _ (by first | omega | (dsimp only; omega)))
              exact (hp _ _ hR_313 hf_315 (by first | omega | (intro h; omega) | exact Or.inl rfl | exact Or.inr rfl) (by first | omega | (intro h; omega) | exact Or.inl rfl | exact Or.inr rfl) hg.symm hl)
        · have d_320 := iEq c_236
          replace hg := gt_pos (by first | exact d_320 | omega) hg
          refine ⟨fun c_321 => ?_, fun c_321 => ?_⟩
          · have d_322 := iNe c_321
            exfalso; omega
          · have d_323 := iEq c_321
            replace hg := gt_pos (by first | exact d_323 | omega) hg
            refine y_Tape_isNumberg hok hw1 ra1 hR (fun r_324 u_325 u_326 gn_327 => ⟨r_324, I0, L0, rfl, rfl, ?_⟩)
            replace hg := gt_let gn_327 hg
            clear gn_327
            have b_328 : 0 ≤ r_324.toInt ∧ r_324.toInt ≤ 1 := u_325.rg
            refine ⟨fun c_329 => ?_, fun c_329 => ?_⟩
            · have d_330 := iEq c_329
              replace hg := gt_pos (by first | exact d_330 | omega) hg
              have l_331 : (2 : Int32).toInt = 2 := rfl
              refine y_Tape_refuseg hok hw1 ra1 (by first | omega | (intro h; omega) | exact Or.inl rfl | exact Or.inr rfl) hR (fun I_337 L_338 hR_339 fr_340 u_333 u_334 gn_335 ln_336 => ⟨I_337, L_338, rfl, rfl, ?_⟩)
              replace hl := hl.call ln_336 (fun c hc => by first | exact hc | exact False.elim hc | (dsimp only at hc ⊢; omega) | omega)
              replace hg := gt_b3 gn_335 hg
              clear gn_335
              have hf_341 : Fm (fun c => (o ≤ c ∧ c < o + 5) ∨ c = x1) I0 I_337 := hf.call fr_340 (fun c hc => by first | exact hc | (dsimp only at hc ⊢; omega) | omega)
              have t_342 : (I_337 o 6).toInt = (I0 o 6).toInt := by rw [fr_340 o (by first | omega | (dsimp only; omega))]
              have t_343 : (I_337 o 8).toInt = (I0 o 8).toInt := by rw [fr_340 o (by first | omega | (dsimp only; omega))]
              have t_344 : (I_337 o 7).toInt = (I0 o 7).toInt := by rw [fr_340 o (by first | omega | (dsimp only; omega))]
              have k_345 : TokOK I_337 x1 := hq2.fr (fr_340 _ (by first | omega | (dsimp only; omega))) (fr_340 _ (by first | omega | (dsimp only; omega)))
              exact (hp _ _ hR_339 hf_341 (by first | omega | (intro h; omega) | exact Or.inl rfl | exact Or.inr rfl) (by first | omega | (intro h; omega) | exact Or.inl rfl | exact Or.inr rfl) hg.symm hl)
            · have d_346 := iNe c_329
              replace hg := gt_neg (by first | exact d_346 | omega) hg
              unfold fReform_readUnit_57
              replace hg := (eReform_readUnit_57).symm.trans hg
              have nb := u_326 (by omega)
              have tk := (hq2 (I0 x1 10).toNatClampNeg).1 nb
              refine ⟨fun c_347 => ?_, fun c_347 => ?_⟩
              · have d_348 := iEq c_347
                replace hg := gt_pos (by first | exact d_348 | omega) hg
                unfold fReform_readUnit_73
                replace hg := (eReform_readUnit_73).symm.trans hg
                refine ⟨fun c_349 => ?_, fun c_349 => ?_⟩
                · have d_350 := iEq c_349
                  replace hg := gt_pos (by first | exact d_350 | omega) hg
                  unfold fReform_readUnit_95
                  replace hg := (eReform_readUnit_95).symm.trans hg
                  have g_351 : (0 : Int) ≤ (I0 o 7).toInt ∧ (I0 o 7).toInt ≤ 100 := hR.at0 ra 7 (by decide)
                  replace hg := gt_let (y := (I0 o 7).toInt) rfl hg
                  have a_352 : ((I0 o 7) + 1).toInt = (I0 o 7).toInt + (1 : Int32).toInt := tAdd (by omega) (by omega)
                  replace hg := gt_let (y := (((I0 o 7) + 1) : Int32).toInt) (by omega) hg
                  refine fun I_353 e_354 => ?_
                  replace hg := gt_let (y := tI I_353) (tI_q e_354) hg
                  have hR_355 : RI R I_353 := hR.up0 (k := 7) ra (by decide) (Or.inl rfl) e_354 (show (0 : Int) ≤ ((I0 o 7) + 1).toInt by omega) (show ((I0 o 7) + 1).toInt ≤ (100 : Int) by omega)
                  have hf_356 : Fm (fun c => (o ≤ c ∧ c < o + 5) ∨ c = x1) I0 I_353 := hf.set (by first | rfl | omega | (dsimp only; omega)) e_354
                  have t_357 : (I_353 o 6).toInt = (I0 o 6).toInt := by rw [← e_354, q_u_k (by decide)]
                  have t_358 : (I_353 o 8).toInt = (I0 o 8).toInt := by rw [← e_354, q_u_k (by decide)]
                  have t_359 : (I_353 o 7).toInt = ((I0 o 7) + 1).toInt := by rw [← e_354, q_u_at]
                  have k_360 : TokOK I_353 x1 := hq2.fr (by rw [← e_354]; exact q_u_ne (by omega)) (by rw [← e_354]; exact q_u_ne (by omega))
                  have w_361 : I_353 (x1 + 5) = I0 (x1 + 5) := by rw [← e_354, q_u_ne (by omega)]
                  have w_362 : I_353 x1 = I0 x1 := by rw [← e_354, q_u_ne (by omega)]
                  refine ⟨fun c_363 => ?_, fun c_363 => ?_⟩
                  · have d_364 := iEq c_363
                    replace hg := gt_pos (by first | exact d_364 | omega) hg
                    refine ⟨fun c_365 => ?_, fun c_365 => ?_⟩
                    · have d_366 := iEq c_365
                      replace hg := gt_pos (by first | exact d_366 | omega) hg
                      refine y_Tape_valueg hok hw1 ra1 hR_355 (fun r_367 u_368 gn_369 => ⟨r_367, I_353, L0, rfl, rfl, ?_⟩)
                      replace hg := gt_let gn_369 hg
                      clear gn_369
                      have bv := u_368
                      rw [w_361, w_362] at bv
                      have bw := iEq bv
                      have v_370 : (0 : Int) ≤ r_367.toInt ∧ r_367.toInt ≤ 9999 := by omega
                      have l_371 : (64 : Int32).toInt = 64 := rfl
                      have a_372 : (64 + r_367).toInt = (64 : Int32).toInt + r_367.toInt := tAdd (by omega) (by omega)
                      replace hg := gt_let (y := ((64 + r_367) : Int32).toInt) (by omega) hg
                      refine y_Reform_emitg hok hw ra (by first | omega | (intro h; omega) | exact Or.inl rfl | exact Or.inr rfl) hR_355 (fun I_378 L_379 hR_380 fr_381 u_374 u_375 gn_376 ln_377 => ⟨I_378, L_379, rfl, rfl, ?_⟩)
                      replace hl := hl.call ln_377 (fun c hc => by first | exact hc | exact False.elim hc | (dsimp only at hc ⊢; omega) | omega)
                      replace hg := gt_b3 gn_376 hg
                      clear gn_376
                      have hf_382 : Fm (fun c => (o ≤ c ∧ c < o + 5) ∨ c = x1) I0 I_378 := hf_356.call fr_381 (fun c hc => by first | exact hc | (dsimp only at hc ⊢; omega) | omega)
                      have g_383 : (0 : Int) ≤ (I_378 o 6).toInt ∧ (I_378 o 6).toInt ≤ 5 := hR_380.at0 ra 6 (by decide)
                      have g_384 : (-1 : Int) ≤ (I_378 o 8).toInt ∧ (I_378 o 8).toInt ≤ 10 := hR_380.at0 ra 8 (by decide)
                      have g_385 : (0 : Int) ≤ (I_378 o 7).toInt ∧ (I_378 o 7).toInt ≤ 100 := hR_380.at0 ra 7 (by decide)
                      have k_386 : TokOK I_378 x1 := k_360.fr (fr_381 _ (by first | omega | (dsimp only; omega))) (fr_381 _ (by first | omega | (dsimp only; omega)))
                      refine y_Tape_stepg hok hw1 ra1 hR_380 (fun I_391 L_392 hR_393 fr_394 u_388 gn_389 ln_390 => ⟨I_391, L_392, rfl, rfl, ?_⟩)
                      replace hl := hl.call ln_390 (fun c hc => by first | exact hc | exact False.elim hc | (dsimp only at hc ⊢; omega) | omega)
                      replace hg := gt_b3 gn_389 hg
                      clear gn_389
                      have hf_395 : Fm (fun c => (o ≤ c ∧ c < o + 5) ∨ c = x1) I0 I_391 := hf_382.call fr_394 (fun c hc => by first | exact hc | (dsimp only at hc ⊢; omega) | omega)
                      have t_396 : (I_391 o 6).toInt = (I_378 o 6).toInt := by rw [fr_394 o (by first | omega | (dsimp only; omega))]
                      have t_397 : (I_391 o 8).toInt = (I_378 o 8).toInt := by rw [fr_394 o (by first | omega | (dsimp only; omega))]
                      have t_398 : (I_391 o 7).toInt = (I_378 o 7).toInt := by rw [fr_394 o (by first | omega | (dsimp only; omega))]
                      have k_399 : TokOK I_391 x1 := k_386.fr (fr_394 _ (by first | omega | (dsimp only; omega))) (fr_394 _ (by first | omega | (dsimp only; omega)))
                      exact (hp _ _ hR_393 hf_395 (by first | omega | (intro h; omega) | exact Or.inl rfl | exact Or.inr rfl) (by first | omega | (intro h; omega) | exact Or.inl rfl | exact Or.inr rfl) hg.symm hl)
                    · have d_400 := iNe c_365
                      exfalso; omega
                  · have d_401 := iNe c_363
                    exfalso; omega
                · have d_402 := iNe c_349
                  exfalso; omega
              · have d_403 := iNe c_347
                exfalso; omega
    · have d_404 := iNe c_214
      replace hg := gt_neg (by first | exact d_404 | omega) hg
      have ak := u_210 (by omega)
      have av := iEq u_206
      unfold fReform_readUnit_30
      replace hg := (eReform_readUnit_30).symm.trans hg
      have g_405 : (0 : Int) ≤ (I0 o 7).toInt ∧ (I0 o 7).toInt ≤ 100 := hR.at0 ra 7 (by decide)
      replace hg := gt_let (y := (I0 o 7).toInt) rfl hg
      have l_406 : (100 : Int32).toInt = 100 := rfl
      refine ⟨fun c_407 => ?_, fun c_407 => ?_⟩
      · have d_408 := iLe c_407
        replace hg := gt_pos (by first | exact d_408 | omega) hg
        have l_409 : (2 : Int32).toInt = 2 := rfl
        refine y_Tape_refuseg hok hw1 ra1 (by first | omega | (intro h; omega) | exact Or.inl rfl | exact Or.inr rfl) hR (fun I_415 L_416 hR_417 fr_418 u_411 u_412 gn_413 ln_414 => ⟨I_415, L_416, rfl, rfl, ?_⟩)
        replace hl := hl.call ln_414 (fun c hc => by first | exact hc | exact False.elim hc | (dsimp only at hc ⊢; omega) | omega)
        replace hg := gt_b3 gn_413 hg
        clear gn_413
        have hf_419 : Fm (fun c => (o ≤ c ∧ c < o + 5) ∨ c = x1) I0 I_415 := hf.call fr_418 (fun c hc => by first | exact hc | (dsimp only at hc ⊢; omega) | omega)
        have t_420 : (I_415 o 6).toInt = (I0 o 6).toInt := by rw [fr_418 o (by first | omega | (dsimp only; omega))]
        have t_421 : (I_415 o 8).toInt = (I0 o 8).toInt := by rw [fr_418 o (by first | omega | (dsimp only; omega))]
        have t_422 : (I_415 o 7).toInt = (I0 o 7).toInt := by rw [fr_418 o (by first | omega | (dsimp only; omega))]
        have k_423 : TokOK I_415 x1 := hq2.fr (fr_418 _ (by first | omega | (dsimp only; omega))) (fr_418 _ (by first | omega | (dsimp only; omega)))
        exact (hp _ _ hR_417 hf_419 (by first | omega | (intro h; omega) | exact Or.inl rfl | exact Or.inr rfl) (by first | omega | (intro h; omega) | exact Or.inl rfl | exact Or.inr rfl) hg.symm hl)
      · have d_424 := iNle c_407
        replace hg := gt_neg (by first | exact d_424 | omega) hg
        refine ⟨fun c_425 => ?_, fun c_425 => ?_⟩
        · have d_426 := iNe c_425
          replace hg := gt_neg (by first | exact d_426 | omega) hg
          unfold fReform_readUnit_57
          replace hg := (eReform_readUnit_57).symm.trans hg
          refine ⟨fun c_427 => ?_, fun c_427 => ?_⟩
          · have d_428 := iEq c_427
            exfalso; omega
          · have d_429 := iNe c_427
            replace hg := gt_neg (by first | exact d_429 | omega) hg
            have l_430 : (6 : Int32).toInt = 6 := rfl
            refine ⟨fun c_431 => ?_, fun c_431 => ?_⟩
            · have d_432 := iLe c_431
              replace hg := gt_pos (by first | exact d_432 | omega) hg
              unfold fReform_readUnit_73
              replace hg := (eReform_readUnit_73).symm.trans hg
              refine ⟨fun c_433 => ?_, fun c_433 => ?_⟩
              · have d_434 := iEq c_433
                exfalso; omega
              · have d_435 := iNe c_433
                replace hg := gt_neg (by first | exact d_435 | omega) hg
                refine y_Tape_valueg hok hw1 ra1 hR (fun r_436 u_437 gn_438 => ⟨r_436, I0, L0, rfl, rfl, ?_⟩)
                replace hg := gt_let gn_438 hg
                clear gn_438
                have j_439 := iEq (u_437.trans u_206.symm)
                refine y_Reform_mayAskg hok hw ra hR (fun r_440 u_441 gn_442 => ⟨r_440, I0, L0, rfl, rfl, ?_⟩)
                replace hg := gt_let gn_442 hg
                clear gn_442
                have b_443 : 0 ≤ r_440.toInt ∧ r_440.toInt ≤ 1 := u_441.rg
                refine ⟨fun c_444 => ?_, fun c_444 => ?_⟩
                · have d_445 := iNe c_444
                  replace hg := gt_neg (by first | exact d_445 | omega) hg
                  unfold fReform_readUnit_95
                  replace hg := (eReform_readUnit_95).symm.trans hg
                  have g_446 : (0 : Int) ≤ (I0 o 7).toInt ∧ (I0 o 7).toInt ≤ 100 := hR.at0 ra 7 (by decide)
                  replace hg := gt_let (y := (I0 o 7).toInt) rfl hg
                  have a_447 : ((I0 o 7) + 1).toInt = (I0 o 7).toInt + (1 : Int32).toInt := tAdd (by omega) (by omega)
                  replace hg := gt_let (y := (((I0 o 7) + 1) : Int32).toInt) (by omega) hg
                  refine fun I_448 e_449 => ?_
                  replace hg := gt_let (y := tI I_448) (tI_q e_449) hg
                  have hR_450 : RI R I_448 := hR.up0 (k := 7) ra (by decide) (Or.inl rfl) e_449 (show (0 : Int) ≤ ((I0 o 7) + 1).toInt by omega) (show ((I0 o 7) + 1).toInt ≤ (100 : Int) by omega)
                  have hf_451 : Fm (fun c => (o ≤ c ∧ c < o + 5) ∨ c = x1) I0 I_448 := hf.set (by first | rfl | omega | (dsimp only; omega)) e_449
                  have t_452 : (I_448 o 6).toInt = (I0 o 6).toInt := by rw [← e_449, q_u_k (by decide)]
                  have t_453 : (I_448 o 8).toInt = (I0 o 8).toInt := by rw [← e_449, q_u_k (by decide)]
                  have t_454 : (I_448 o 7).toInt = ((I0 o 7) + 1).toInt := by rw [← e_449, q_u_at]
                  have k_455 : TokOK I_448 x1 := hq2.fr (by rw [← e_449]; exact q_u_ne (by omega)) (by rw [← e_449]; exact q_u_ne (by omega))
                  have w_456 : I_448 (x1 + 5) = I0 (x1 + 5) := by rw [← e_449, q_u_ne (by omega)]
                  have w_457 : I_448 x1 = I0 x1 := by rw [← e_449, q_u_ne (by omega)]
                  refine ⟨fun c_458 => ?_, fun c_458 => ?_⟩
                  · have d_459 := iEq c_458
                    exfalso; omega
                  · have d_460 := iNe c_458
                    replace hg := gt_neg (by first | exact d_460 | omega) hg
                    refine y_Tape_stepg hok hw1 ra1 hR_450 (fun I_465 L_466 hR_467 fr_468 u_462 gn_463 ln_464 => ⟨I_465, L_466, rfl, rfl, ?_⟩)
                    replace hl := hl.call ln_464 (fun c hc => by first | exact hc | exact False.elim hc | (dsimp only at hc ⊢; omega) | omega)
                    replace hg := gt_b3 gn_463 hg
                    clear gn_463
                    have hf_469 : Fm (fun c => (o ≤ c ∧ c < o + 5) ∨ c = x1) I0 I_465 := hf_451.call fr_468 (fun c hc => by first | exact hc | (dsimp only at hc ⊢; omega) | omega)
                    have t_470 : (I_465 o 6).toInt = (I_448 o 6).toInt := by rw [fr_468 o (by first | omega | (dsimp only; omega))]
                    have t_471 : (I_465 o 8).toInt = (I_448 o 8).toInt := by rw [fr_468 o (by first | omega | (dsimp only; omega))]
                    have t_472 : (I_465 o 7).toInt = (I_448 o 7).toInt := by rw [fr_468 o (by first | omega | (dsimp only; omega))]
                    have k_473 : TokOK I_465 x1 := k_455.fr (fr_468 _ (by first | omega | (dsimp only; omega))) (fr_468 _ (by first | omega | (dsimp only; omega)))
                    have a_474 : (p2 + 1).toInt = p2.toInt + (1 : Int32).toInt := tAdd (by omega) (by omega)
                    replace hg := gt_let (y := ((p2 + 1) : Int32).toInt) (by omega) hg
                    refine cReform_readEither I_465 L_466 _ _ hR_467 k_473 (by omega) (by omega) (fun I_475 L_476 hR_477 fr_478 k6_482 k8_483 eg_480 lz_481 => ⟨I_475, L_476, rfl, rfl, ?_⟩)
                    replace hg := gt_b3 eg_480 hg
                    clear eg_480
                    replace hl := hl.call lz_481 (fun c hc => False.elim hc)
                    have hf_479 : Fm (fun c => (o ≤ c ∧ c < o + 5) ∨ c = x1) I0 I_475 := hf_469.call fr_478 (fun c hc => hc)
                    have k_484 : TokOK I_475 x1 := k_473.fr (fr_478 _ (by first | omega | (dsimp only; omega))) (fr_478 _ (by first | omega | (dsimp only; omega)))
                    have l_485 : (41 : Int32).toInt = 41 := rfl
                    refine y_Tape_isSigng hok hw1 ra1 hR_477 (fun r_486 u_487 u_488 gn_489 => ⟨r_486, I_475, L_476, rfl, rfl, ?_⟩)
                    replace hg := gt_let gn_489 hg
                    clear gn_489
                    have b_490 : 0 ≤ r_486.toInt ∧ r_486.toInt ≤ 1 := u_487.rg
                    refine y_Tape_passIfg hok hw1 ra1 hR_477 (fun I_495 L_496 hR_497 fr_498 u_492 gn_493 ln_494 => ⟨I_495, L_496, rfl, rfl, ?_⟩)
                    replace hl := hl.call ln_494 (fun c hc => by first | exact hc | exact False.elim hc | (dsimp only at hc ⊢; omega) | omega)
                    replace hg := gt_b3 gn_493 hg
                    clear gn_493
                    have hf_499 : Fm (fun c => (o ≤ c ∧ c < o + 5) ∨ c = x1) I0 I_495 := hf_479.call fr_498 (fun c hc => by first | exact hc | (dsimp only at hc ⊢; omega) | omega)
                    have t_500 : (I_495 o 6).toInt = (I_475 o 6).toInt := by rw [fr_498 o (by first | omega | (dsimp only; omega))]
                    have t_501 : (I_495 o 8).toInt = (I_475 o 8).toInt := by rw [fr_498 o (by first | omega | (dsimp only; omega))]
                    have k_502 : TokOK I_495 x1 := k_484.fr (fr_498 _ (by first | omega | (dsimp only; omega))) (fr_498 _ (by first | omega | (dsimp only; omega)))
                    exact (hp _ _ hR_497 hf_499 (by first | omega | (intro h; omega) | exact Or.inl rfl | exact Or.inr rfl) (by first | omega | (intro h; omega) | exact Or.inl rfl | exact Or.inr rfl) hg.symm hl)
                · have d_503 := iEq c_444
                  replace hg := gt_pos (by first | exact d_503 | omega) hg
                  have l_504 : (5 : Int32).toInt = 5 := rfl
                  refine y_Tape_refuseg hok hw1 ra1 (by first | omega | (intro h; omega) | exact Or.inl rfl | exact Or.inr rfl) hR (fun I_510 L_511 hR_512 fr_513 u_506 u_507 gn_508 ln_509 => ⟨I_510, L_511, rfl, rfl, ?_⟩)
                  replace hl := hl.call ln_509 (fun c hc => by first | exact hc | exact False.elim hc | (dsimp only at hc ⊢; omega) | omega)
                  replace hg := gt_b3 gn_508 hg
                  clear gn_508
                  have hf_514 : Fm (fun c => (o ≤ c ∧ c < o + 5) ∨ c = x1) I0 I_510 := hf.call fr_513 (fun c hc => by first | exact hc | (dsimp only at hc ⊢; omega) | omega)
                  have t_515 : (I_510 o 6).toInt = (I0 o 6).toInt := by rw [fr_513 o (by first | omega | (dsimp only; omega))]
                  have t_516 : (I_510 o 8).toInt = (I0 o 8).toInt := by rw [fr_513 o (by first | omega | (dsimp only; omega))]
                  have t_517 : (I_510 o 7).toInt = (I0 o 7).toInt := by rw [fr_513 o (by first | omega | (dsimp only; omega))]
                  have k_518 : TokOK I_510 x1 := hq2.fr (fr_513 _ (by first | omega | (dsimp only; omega))) (fr_513 _ (by first | omega | (dsimp only; omega)))
                  exact (hp _ _ hR_512 hf_514 (by first | omega | (intro h; omega) | exact Or.inl rfl | exact Or.inr rfl) (by first | omega | (intro h; omega) | exact Or.inl rfl | exact Or.inr rfl) hg.symm hl)
            · have d_519 := iNle c_431
              replace hg := gt_neg (by first | exact d_519 | omega) hg
              have l_520 : (2 : Int32).toInt = 2 := rfl
              refine y_Tape_refuseg hok hw1 ra1 (by first | omega | (intro h; omega) | exact Or.inl rfl | exact Or.inr rfl) hR (fun I_526 L_527 hR_528 fr_529 u_522 u_523 gn_524 ln_525 => ⟨I_526, L_527, rfl, rfl, ?_⟩)
              replace hl := hl.call ln_525 (fun c hc => by first | exact hc | exact False.elim hc | (dsimp only at hc ⊢; omega) | omega)
              replace hg := gt_b3 gn_524 hg
              clear gn_524
              have hf_530 : Fm (fun c => (o ≤ c ∧ c < o + 5) ∨ c = x1) I0 I_526 := hf.call fr_529 (fun c hc => by first | exact hc | (dsimp only at hc ⊢; omega) | omega)
              have t_531 : (I_526 o 6).toInt = (I0 o 6).toInt := by rw [fr_529 o (by first | omega | (dsimp only; omega))]
              have t_532 : (I_526 o 8).toInt = (I0 o 8).toInt := by rw [fr_529 o (by first | omega | (dsimp only; omega))]
              have t_533 : (I_526 o 7).toInt = (I0 o 7).toInt := by rw [fr_529 o (by first | omega | (dsimp only; omega))]
              have k_534 : TokOK I_526 x1 := hq2.fr (fr_529 _ (by first | omega | (dsimp only; omega))) (fr_529 _ (by first | omega | (dsimp only; omega)))
              exact (hp _ _ hR_528 hf_530 (by first | omega | (intro h; omega) | exact Or.inl rfl | exact Or.inr rfl) (by first | omega | (intro h; omega) | exact Or.inl rfl | exact Or.inr rfl) hg.symm hl)
        · have d_535 := iEq c_425
          replace hg := gt_pos (by first | exact d_535 | omega) hg
          refine ⟨fun c_536 => ?_, fun c_536 => ?_⟩
          · have d_537 := iNe c_536
            replace hg := gt_neg (by first | exact d_537 | omega) hg
            unfold fReform_readUnit_57
            replace hg := (eReform_readUnit_57).symm.trans hg
            refine ⟨fun c_538 => ?_, fun c_538 => ?_⟩
            · have d_539 := iEq c_538
              replace hg := gt_pos (by first | exact d_539 | omega) hg
              unfold fReform_readUnit_73
              replace hg := (eReform_readUnit_73).symm.trans hg
              refine ⟨fun c_540 => ?_, fun c_540 => ?_⟩
              · have d_541 := iEq c_540
                exfalso; omega
              · have d_542 := iNe c_540
                replace hg := gt_neg (by first | exact d_542 | omega) hg
                refine y_Tape_valueg hok hw1 ra1 hR (fun r_543 u_544 gn_545 => ⟨r_543, I0, L0, rfl, rfl, ?_⟩)
                replace hg := gt_let gn_545 hg
                clear gn_545
                have j_546 := iEq (u_544.trans u_206.symm)
                refine y_Reform_mayAskg hok hw ra hR (fun r_547 u_548 gn_549 => ⟨r_547, I0, L0, rfl, rfl, ?_⟩)
                replace hg := gt_let gn_549 hg
                clear gn_549
                have b_550 : 0 ≤ r_547.toInt ∧ r_547.toInt ≤ 1 := u_548.rg
                refine ⟨fun c_551 => ?_, fun c_551 => ?_⟩
                · have d_552 := iNe c_551
                  replace hg := gt_neg (by first | exact d_552 | omega) hg
                  unfold fReform_readUnit_95
                  replace hg := (eReform_readUnit_95).symm.trans hg
                  have g_553 : (0 : Int) ≤ (I0 o 7).toInt ∧ (I0 o 7).toInt ≤ 100 := hR.at0 ra 7 (by decide)
                  replace hg := gt_let (y := (I0 o 7).toInt) rfl hg
                  have a_554 : ((I0 o 7) + 1).toInt = (I0 o 7).toInt + (1 : Int32).toInt := tAdd (by omega) (by omega)
                  replace hg := gt_let (y := (((I0 o 7) + 1) : Int32).toInt) (by omega) hg
                  refine fun I_555 e_556 => ?_
                  replace hg := gt_let (y := tI I_555) (tI_q e_556) hg
                  have hR_557 : RI R I_555 := hR.up0 (k := 7) ra (by decide) (Or.inl rfl) e_556 (show (0 : Int) ≤ ((I0 o 7) + 1).toInt by omega) (show ((I0 o 7) + 1).toInt ≤ (100 : Int) by omega)
                  have hf_558 : Fm (fun c => (o ≤ c ∧ c < o + 5) ∨ c = x1) I0 I_555 := hf.set (by first | rfl | omega | (dsimp only; omega)) e_556
                  have t_559 : (I_555 o 6).toInt = (I0 o 6).toInt := by rw [← e_556, q_u_k (by decide)]
                  have t_560 : (I_555 o 8).toInt = (I0 o 8).toInt := by rw [← e_556, q_u_k (by decide)]
                  have t_561 : (I_555 o 7).toInt = ((I0 o 7) + 1).toInt := by rw [← e_556, q_u_at]
                  have k_562 : TokOK I_555 x1 := hq2.fr (by rw [← e_556]; exact q_u_ne (by omega)) (by rw [← e_556]; exact q_u_ne (by omega))
                  have w_563 : I_555 (x1 + 5) = I0 (x1 + 5) := by rw [← e_556, q_u_ne (by omega)]
                  have w_564 : I_555 x1 = I0 x1 := by rw [← e_556, q_u_ne (by omega)]
                  refine ⟨fun c_565 => ?_, fun c_565 => ?_⟩
                  · have d_566 := iEq c_565
                    replace hg := gt_pos (by first | exact d_566 | omega) hg
                    refine ⟨fun c_567 => ?_, fun c_567 => ?_⟩
                    · have d_568 := iEq c_567
                      exfalso; omega
                    · have d_569 := iNe c_567
                      replace hg := gt_neg (by first | exact d_569 | omega) hg
                      refine y_Tape_valueg hok hw1 ra1 hR_557 (fun r_570 u_571 gn_572 => ⟨r_570, I_555, L0, rfl, rfl, ?_⟩)
                      replace hg := gt_let gn_572 hg
                      clear gn_572
                      have bv := u_571
                      rw [w_563, w_564] at bv
                      have bw := iEq bv
                      have bh := i_hi (I0 (x1 + 5) (I0 x1 10).toNatClampNeg)
                      have v_573 : (0 : Int) ≤ r_570.toInt ∧ r_570.toInt ≤ 2147483647 := by omega
                      refine y_Reform_emitg hok hw ra (by first | omega | (intro h; omega) | exact Or.inl rfl | exact Or.inr rfl) hR_557 (fun I_579 L_580 hR_581 fr_582 u_575 u_576 gn_577 ln_578 => ⟨I_579, L_580, rfl, rfl, ?_⟩)
                      replace hl := hl.call ln_578 (fun c hc => by first | exact hc | exact False.elim hc | (dsimp only at hc ⊢; omega) | omega)
                      replace hg := gt_b3 gn_577 hg
                      clear gn_577
                      have hf_583 : Fm (fun c => (o ≤ c ∧ c < o + 5) ∨ c = x1) I0 I_579 := hf_558.call fr_582 (fun c hc => by first | exact hc | (dsimp only at hc ⊢; omega) | omega)
                      have g_584 : (0 : Int) ≤ (I_579 o 6).toInt ∧ (I_579 o 6).toInt ≤ 5 := hR_581.at0 ra 6 (by decide)
                      have g_585 : (-1 : Int) ≤ (I_579 o 8).toInt ∧ (I_579 o 8).toInt ≤ 10 := hR_581.at0 ra 8 (by decide)
                      have g_586 : (0 : Int) ≤ (I_579 o 7).toInt ∧ (I_579 o 7).toInt ≤ 100 := hR_581.at0 ra 7 (by decide)
                      have k_587 : TokOK I_579 x1 := k_562.fr (fr_582 _ (by first | omega | (dsimp only; omega))) (fr_582 _ (by first | omega | (dsimp only; omega)))
                      refine y_Tape_stepg hok hw1 ra1 hR_581 (fun I_592 L_593 hR_594 fr_595 u_589 gn_590 ln_591 => ⟨I_592, L_593, rfl, rfl, ?_⟩)
                      replace hl := hl.call ln_591 (fun c hc => by first | exact hc | exact False.elim hc | (dsimp only at hc ⊢; omega) | omega)
                      replace hg := gt_b3 gn_590 hg
                      clear gn_590
                      have hf_596 : Fm (fun c => (o ≤ c ∧ c < o + 5) ∨ c = x1) I0 I_592 := hf_583.call fr_595 (fun c hc => by first | exact hc | (dsimp only at hc ⊢; omega) | omega)
                      have t_597 : (I_592 o 6).toInt = (I_579 o 6).toInt := by rw [fr_595 o (by first | omega | (dsimp only; omega))]
                      have t_598 : (I_592 o 8).toInt = (I_579 o 8).toInt := by rw [fr_595 o (by first | omega | (dsimp only; omega))]
                      have t_599 : (I_592 o 7).toInt = (I_579 o 7).toInt := by rw [fr_595 o (by first | omega | (dsimp only; omega))]
                      have k_600 : TokOK I_592 x1 := k_587.fr (fr_595 _ (by first | omega | (dsimp only; omega))) (fr_595 _ (by first | omega | (dsimp only; omega)))
                      exact (hp _ _ hR_594 hf_596 (by first | omega | (intro h; omega) | exact Or.inl rfl | exact Or.inr rfl) (by first | omega | (intro h; omega) | exact Or.inl rfl | exact Or.inr rfl) hg.symm hl)
                  · have d_601 := iNe c_565
                    exfalso; omega
                · have d_602 := iEq c_551
                  replace hg := gt_pos (by first | exact d_602 | omega) hg
                  have l_603 : (5 : Int32).toInt = 5 := rfl
                  refine y_Tape_refuseg hok hw1 ra1 (by first | omega | (intro h; omega) | exact Or.inl rfl | exact Or.inr rfl) hR (fun I_609 L_610 hR_611 fr_612 u_605 u_606 gn_607 ln_608 => ⟨I_609, L_610, rfl, rfl, ?_⟩)
                  replace hl := hl.call ln_608 (fun c hc => by first | exact hc | exact False.elim hc | (dsimp only at hc ⊢; omega) | omega)
                  replace hg := gt_b3 gn_607 hg
                  clear gn_607
                  have hf_613 : Fm (fun c => (o ≤ c ∧ c < o + 5) ∨ c = x1) I0 I_609 := hf.call fr_612 (fun c hc => by first | exact hc | (dsimp only at hc ⊢; omega) | omega)
                  have t_614 : (I_609 o 6).toInt = (I0 o 6).toInt := by rw [fr_612 o (by first | omega | (dsimp only; omega))]
                  have t_615 : (I_609 o 8).toInt = (I0 o 8).toInt := by rw [fr_612 o (by first | omega | (dsimp only; omega))]
                  have t_616 : (I_609 o 7).toInt = (I0 o 7).toInt := by rw [fr_612 o (by first | omega | (dsimp only; omega))]
                  have k_617 : TokOK I_609 x1 := hq2.fr (fr_612 _ (by first | omega | (dsimp only; omega))) (fr_612 _ (by first | omega | (dsimp only; omega)))
                  exact (hp _ _ hR_611 hf_613 (by first | omega | (intro h; omega) | exact Or.inl rfl | exact Or.inr rfl) (by first | omega | (intro h; omega) | exact Or.inl rfl | exact Or.inr rfl) hg.symm hl)
            · have d_618 := iNe c_538
              exfalso; omega
          · have d_619 := iEq c_536
            exfalso; omega
