/-! The mirror: c1. By program (grun.py). -/
noncomputable def gTape_byteAt_19 (o : Nat) (J : gJ) (L : gL) (x1 : Int) : Int := 0
theorem eTape_byteAt_19 {o : Nat} {J : gJ} {L : gL} {x1 : Int} : gTape_byteAt_19 o J L x1 = 0 := rfl
noncomputable def gTape_byteAt_0 (o : Nat) (J : gJ) (L : gL) (x1 : Int) : Int := (if x1 < 0 then (gTape_byteAt_19 o J L x1) else gLet (J o 6) (fun (v_1 : Int) => (if v_1 ≤ x1 then (gTape_byteAt_19 o J L x1) else (if x1 < 1600 then gLet (J (o + 1) (Int.toNat x1)) (fun (v_2 : Int) => v_2) else (gTape_byteAt_19 o J L x1)))))
theorem eTape_byteAt_0 {o : Nat} {J : gJ} {L : gL} {x1 : Int} : gTape_byteAt_0 o J L x1 = (if x1 < 0 then (gTape_byteAt_19 o J L x1) else gLet (J o 6) (fun (v_1 : Int) => (if v_1 ≤ x1 then (gTape_byteAt_19 o J L x1) else (if x1 < 1600 then gLet (J (o + 1) (Int.toNat x1)) (fun (v_2 : Int) => v_2) else (gTape_byteAt_19 o J L x1))))) := rfl
set_option maxHeartbeats 4000000 in
set_option maxRecDepth 20000 in
theorem y_Tape_byteAtg {D : va_G} {cA : FieldType → ClassId} {b : Nat} {E : State → Prop} {R : qRg} {o n : Nat} {sh : Nat → qC} {Rf : Nat → Nat → Option Nat} {I0 : Nat → Nat → Int32} {L0 : Nat → Nat → Int64} {post : Option Value → qS → Prop} {p1 : Int32} (hok : q_ok (qGG D cA b E)) (hw : WfTape (qGG D cA b E) n sh Rf o) (ra : RATape R o) (hR : RI R I0) (hp : ∀ (r : Int32) , (r = byF (I0 (o + 1)) (I0 o 6) p1) → (gTape_byteAt_0 o (tI I0) L0 (p1).toInt = r.toInt) → post (some (.int r)) (n, sh, Rf, I0, L0)) : Ev (qGG D cA b E) mTape_byteAt 0 (0, 0) 0 (lv_args 0 [.ref o, .int p1]) [] (n, sh, Rf, I0, L0) post := by
  refine sTape_byteAt_0 o n sh Rf I0 L0 post p1 hok hw ?_
  unfold fTape_byteAt_0
  have hg : gTape_byteAt_0 o (tI I0) L0 (p1).toInt = gTape_byteAt_0 o (tI I0) L0 (p1).toInt := rfl
  replace hg := (eTape_byteAt_0).symm.trans hg
  have l_1 : (0 : Int32).toInt = 0 := rfl
  refine ⟨fun c_2 => ?_, fun c_2 => ?_⟩
  · have d_3 := iLt c_2
    replace hg := gt_pos (by first | exact d_3 | omega) hg
    unfold fTape_byteAt_19
    replace hg := (eTape_byteAt_19).symm.trans hg
    exact (hp _ (by clear hg; simp [byF, *]) hg.symm)
  · have d_4 := iNlt c_2
    replace hg := gt_neg (by first | exact d_4 | omega) hg
    have g_5 : (0 : Int) ≤ (I0 o 6).toInt ∧ (I0 o 6).toInt ≤ 1600 := hR.at0 ra 6 (by decide)
    replace hg := gt_let (y := (I0 o 6).toInt) rfl hg
    refine ⟨fun c_6 => ?_, fun c_6 => ?_⟩
    · have d_7 := iLe c_6
      replace hg := gt_pos (by first | exact d_7 | omega) hg
      unfold fTape_byteAt_19
      replace hg := (eTape_byteAt_19).symm.trans hg
      exact (hp _ (by clear hg; simp [byF, *]) hg.symm)
    · have d_8 := iNle c_6
      replace hg := gt_neg (by first | exact d_8 | omega) hg
      have l_9 : (1600 : Int32).toInt = 1600 := rfl
      refine ⟨fun c_10 => ?_, fun c_10 => ?_⟩
      · have d_11 := iLt c_10
        replace hg := gt_pos (by first | exact d_11 | omega) hg
        refine ⟨tIn (by omega) (by omega), ?_⟩
        replace hg := gt_let (y := (I0 (o + 1) (p1 : Int32).toNatClampNeg).toInt) rfl hg
        exact (hp _ (by clear hg; simp [byF, *]) hg.symm)
      · have d_12 := iNlt c_10
        exfalso; omega
noncomputable def gTape_isLetter_0 (J : gJ) (L : gL) (x0 : Int) : Int := (if x0 < 97 then 0 else (if 122 < x0 then 0 else 1))
theorem eTape_isLetter_0 {J : gJ} {L : gL} {x0 : Int} : gTape_isLetter_0  J L x0 = (if x0 < 97 then 0 else (if 122 < x0 then 0 else 1)) := rfl
set_option maxHeartbeats 4000000 in
set_option maxRecDepth 20000 in
theorem y_Tape_isLetterg {D : va_G} {cA : FieldType → ClassId} {b : Nat} {E : State → Prop} {R : qRg} {n : Nat} {sh : Nat → qC} {Rf : Nat → Nat → Option Nat} {I0 : Nat → Nat → Int32} {L0 : Nat → Nat → Int64} {post : Option Value → qS → Prop} {p0 : Int32} (hok : q_ok (qGG D cA b E)) (hR : RI R I0) (hp : ∀ (r : Int32) , (Bz r) → (r = ltF p0) → (gTape_isLetter_0  (tI I0) L0 (p0).toInt = r.toInt) → post (some (.int r)) (n, sh, Rf, I0, L0)) : Ev (qGG D cA b E) mTape_isLetter 0 (0, 0) 0 (lv_args 0 [.int p0]) [] (n, sh, Rf, I0, L0) post := by
  refine sTape_isLetter_0 n sh Rf I0 L0 post p0 hok  ?_
  unfold fTape_isLetter_0
  have hg : gTape_isLetter_0  (tI I0) L0 (p0).toInt = gTape_isLetter_0  (tI I0) L0 (p0).toInt := rfl
  replace hg := (eTape_isLetter_0).symm.trans hg
  have l_1 : (97 : Int32).toInt = 97 := rfl
  refine ⟨fun c_2 => ?_, fun c_2 => ?_⟩
  · have d_3 := iLt c_2
    replace hg := gt_pos (by first | exact d_3 | omega) hg
    have l_4 : (0 : Int32).toInt = 0 := rfl
    exact (hp _ (Or.inl rfl) (by clear hg; simp [ltF, *]) hg.symm)
  · have d_5 := iNlt c_2
    replace hg := gt_neg (by first | exact d_5 | omega) hg
    have l_6 : (122 : Int32).toInt = 122 := rfl
    refine ⟨fun c_7 => ?_, fun c_7 => ?_⟩
    · have d_8 := iLt c_7
      replace hg := gt_pos (by first | exact d_8 | omega) hg
      have l_9 : (0 : Int32).toInt = 0 := rfl
      exact (hp _ (Or.inl rfl) (by clear hg; simp [ltF, *]) hg.symm)
    · have d_10 := iNlt c_7
      replace hg := gt_neg (by first | exact d_10 | omega) hg
      have l_11 : (1 : Int32).toInt = 1 := rfl
      exact (hp _ (Or.inr rfl) (by clear hg; simp [ltF, *]) hg.symm)
noncomputable def gTape_isDigit_0 (J : gJ) (L : gL) (x0 : Int) : Int := (if x0 < 48 then 0 else (if 57 < x0 then 0 else 1))
theorem eTape_isDigit_0 {J : gJ} {L : gL} {x0 : Int} : gTape_isDigit_0  J L x0 = (if x0 < 48 then 0 else (if 57 < x0 then 0 else 1)) := rfl
set_option maxHeartbeats 4000000 in
set_option maxRecDepth 20000 in
theorem y_Tape_isDigitg {D : va_G} {cA : FieldType → ClassId} {b : Nat} {E : State → Prop} {R : qRg} {n : Nat} {sh : Nat → qC} {Rf : Nat → Nat → Option Nat} {I0 : Nat → Nat → Int32} {L0 : Nat → Nat → Int64} {post : Option Value → qS → Prop} {p0 : Int32} (hok : q_ok (qGG D cA b E)) (hR : RI R I0) (hp : ∀ (r : Int32) , (Bz r) → (r = dgF p0) → (gTape_isDigit_0  (tI I0) L0 (p0).toInt = r.toInt) → post (some (.int r)) (n, sh, Rf, I0, L0)) : Ev (qGG D cA b E) mTape_isDigit 0 (0, 0) 0 (lv_args 0 [.int p0]) [] (n, sh, Rf, I0, L0) post := by
  refine sTape_isDigit_0 n sh Rf I0 L0 post p0 hok  ?_
  unfold fTape_isDigit_0
  have hg : gTape_isDigit_0  (tI I0) L0 (p0).toInt = gTape_isDigit_0  (tI I0) L0 (p0).toInt := rfl
  replace hg := (eTape_isDigit_0).symm.trans hg
  have l_1 : (48 : Int32).toInt = 48 := rfl
  refine ⟨fun c_2 => ?_, fun c_2 => ?_⟩
  · have d_3 := iLt c_2
    replace hg := gt_pos (by first | exact d_3 | omega) hg
    have l_4 : (0 : Int32).toInt = 0 := rfl
    exact (hp _ (Or.inl rfl) (by clear hg; simp [dgF, *]) hg.symm)
  · have d_5 := iNlt c_2
    replace hg := gt_neg (by first | exact d_5 | omega) hg
    have l_6 : (57 : Int32).toInt = 57 := rfl
    refine ⟨fun c_7 => ?_, fun c_7 => ?_⟩
    · have d_8 := iLt c_7
      replace hg := gt_pos (by first | exact d_8 | omega) hg
      have l_9 : (0 : Int32).toInt = 0 := rfl
      exact (hp _ (Or.inl rfl) (by clear hg; simp [dgF, *]) hg.symm)
    · have d_10 := iNlt c_7
      replace hg := gt_neg (by first | exact d_10 | omega) hg
      have l_11 : (1 : Int32).toInt = 1 := rfl
      exact (hp _ (Or.inr rfl) (by clear hg; simp [dgF, *]) hg.symm)
noncomputable def gTape_kind_0 (o : Nat) (J : gJ) (L : gL) : Int := gLet (J o 10) (fun (v_1 : Int) => gLet (J (o + 3) (Int.toNat v_1)) (fun (v_2 : Int) => v_2))
theorem eTape_kind_0 {o : Nat} {J : gJ} {L : gL} : gTape_kind_0 o J L  = gLet (J o 10) (fun (v_1 : Int) => gLet (J (o + 3) (Int.toNat v_1)) (fun (v_2 : Int) => v_2)) := rfl
set_option maxHeartbeats 4000000 in
set_option maxRecDepth 20000 in
theorem y_Tape_kindg {D : va_G} {cA : FieldType → ClassId} {b : Nat} {E : State → Prop} {R : qRg} {o n : Nat} {sh : Nat → qC} {Rf : Nat → Nat → Option Nat} {I0 : Nat → Nat → Int32} {L0 : Nat → Nat → Int64} {post : Option Value → qS → Prop} (hok : q_ok (qGG D cA b E)) (hw : WfTape (qGG D cA b E) n sh Rf o) (ra : RATape R o) (hR : RI R I0) (hp : ∀ (r : Int32) , (r = I0 (o + 3) (I0 o 10).toNatClampNeg) → (gTape_kind_0 o (tI I0) L0 = r.toInt) → post (some (.int r)) (n, sh, Rf, I0, L0)) : Ev (qGG D cA b E) mTape_kind 0 (0, 0) 0 (lv_args 0 [.ref o]) [] (n, sh, Rf, I0, L0) post := by
  refine sTape_kind_0 o n sh Rf I0 L0 post  hok hw ?_
  unfold fTape_kind_0
  have hg : gTape_kind_0 o (tI I0) L0 = gTape_kind_0 o (tI I0) L0 := rfl
  replace hg := (eTape_kind_0).symm.trans hg
  have g_1 : (0 : Int) ≤ (I0 o 10).toInt ∧ (I0 o 10).toInt ≤ 1600 := hR.at0 ra 10 (by decide)
  replace hg := gt_let (y := (I0 o 10).toInt) rfl hg
  refine ⟨tIn (by omega) (by omega), ?_⟩
  replace hg := gt_let (y := (I0 (o + 3) ((I0 o 10) : Int32).toNatClampNeg).toInt) rfl hg
  exact (hp _ (by clear hg; rfl) hg.symm)
noncomputable def gTape_value_0 (o : Nat) (J : gJ) (L : gL) : Int := gLet (J o 10) (fun (v_1 : Int) => gLet (J (o + 5) (Int.toNat v_1)) (fun (v_2 : Int) => v_2))
theorem eTape_value_0 {o : Nat} {J : gJ} {L : gL} : gTape_value_0 o J L  = gLet (J o 10) (fun (v_1 : Int) => gLet (J (o + 5) (Int.toNat v_1)) (fun (v_2 : Int) => v_2)) := rfl
set_option maxHeartbeats 4000000 in
set_option maxRecDepth 20000 in
theorem y_Tape_valueg {D : va_G} {cA : FieldType → ClassId} {b : Nat} {E : State → Prop} {R : qRg} {o n : Nat} {sh : Nat → qC} {Rf : Nat → Nat → Option Nat} {I0 : Nat → Nat → Int32} {L0 : Nat → Nat → Int64} {post : Option Value → qS → Prop} (hok : q_ok (qGG D cA b E)) (hw : WfTape (qGG D cA b E) n sh Rf o) (ra : RATape R o) (hR : RI R I0) (hp : ∀ (r : Int32) , (r = I0 (o + 5) (I0 o 10).toNatClampNeg) → (gTape_value_0 o (tI I0) L0 = r.toInt) → post (some (.int r)) (n, sh, Rf, I0, L0)) : Ev (qGG D cA b E) mTape_value 0 (0, 0) 0 (lv_args 0 [.ref o]) [] (n, sh, Rf, I0, L0) post := by
  refine sTape_value_0 o n sh Rf I0 L0 post  hok hw ?_
  unfold fTape_value_0
  have hg : gTape_value_0 o (tI I0) L0 = gTape_value_0 o (tI I0) L0 := rfl
  replace hg := (eTape_value_0).symm.trans hg
  have g_1 : (0 : Int) ≤ (I0 o 10).toInt ∧ (I0 o 10).toInt ≤ 1600 := hR.at0 ra 10 (by decide)
  replace hg := gt_let (y := (I0 o 10).toInt) rfl hg
  refine ⟨tIn (by omega) (by omega), ?_⟩
  replace hg := gt_let (y := (I0 (o + 5) ((I0 o 10) : Int32).toNatClampNeg).toInt) rfl hg
  exact (hp _ (by clear hg; rfl) hg.symm)
noncomputable def gTape_name_0 (o : Nat) (J : gJ) (L : gL) : Int64 := gLet (J o 10) (fun (v_1 : Int) => (L (o + 6) (Int.toNat v_1)))
theorem eTape_name_0 {o : Nat} {J : gJ} {L : gL} : gTape_name_0 o J L  = gLet (J o 10) (fun (v_1 : Int) => (L (o + 6) (Int.toNat v_1))) := rfl
set_option maxHeartbeats 4000000 in
set_option maxRecDepth 20000 in
theorem y_Tape_nameg {D : va_G} {cA : FieldType → ClassId} {b : Nat} {E : State → Prop} {R : qRg} {o n : Nat} {sh : Nat → qC} {Rf : Nat → Nat → Option Nat} {I0 : Nat → Nat → Int32} {L0 : Nat → Nat → Int64} {post : Option Value → qS → Prop} (hok : q_ok (qGG D cA b E)) (hw : WfTape (qGG D cA b E) n sh Rf o) (ra : RATape R o) (hR : RI R I0) (hp : ∀ (r : Int64) , (gTape_name_0 o (tI I0) L0 = r) → post (some (.long r)) (n, sh, Rf, I0, L0)) : Ev (qGG D cA b E) mTape_name 0 (0, 0) 0 (lv_args 0 [.ref o]) [] (n, sh, Rf, I0, L0) post := by
  refine sTape_name_0 o n sh Rf I0 L0 post  hok hw ?_
  unfold fTape_name_0
  have hg : gTape_name_0 o (tI I0) L0 = gTape_name_0 o (tI I0) L0 := rfl
  replace hg := (eTape_name_0).symm.trans hg
  have g_1 : (0 : Int) ≤ (I0 o 10).toInt ∧ (I0 o 10).toInt ≤ 1600 := hR.at0 ra 10 (by decide)
  replace hg := gt_let (y := (I0 o 10).toInt) rfl hg
  refine ⟨tIn (by omega) (by omega), ?_⟩
  exact (hp _  hg.symm)
noncomputable def gTape_isWord_0 (o : Nat) (J : gJ) (L : gL) (x1 : Int) : Int := gLet (J o 7) (fun (v_1 : Int) => (if v_1 = 0 then gLet (J o 10) (fun (v_2 : Int) => gLet (J (o + 3) (Int.toNat v_2)) (fun (v_3 : Int) => (if v_3 = 1 then gLet (J o 10) (fun (v_4 : Int) => gLet (J (o + 5) (Int.toNat v_4)) (fun (v_5 : Int) => (if v_5 = x1 then 1 else 0))) else 0))) else 0))
theorem eTape_isWord_0 {o : Nat} {J : gJ} {L : gL} {x1 : Int} : gTape_isWord_0 o J L x1 = gLet (J o 7) (fun (v_1 : Int) => (if v_1 = 0 then gLet (J o 10) (fun (v_2 : Int) => gLet (J (o + 3) (Int.toNat v_2)) (fun (v_3 : Int) => (if v_3 = 1 then gLet (J o 10) (fun (v_4 : Int) => gLet (J (o + 5) (Int.toNat v_4)) (fun (v_5 : Int) => (if v_5 = x1 then 1 else 0))) else 0))) else 0)) := rfl
set_option maxHeartbeats 4000000 in
set_option maxRecDepth 20000 in
theorem y_Tape_isWordg {D : va_G} {cA : FieldType → ClassId} {b : Nat} {E : State → Prop} {R : qRg} {o n : Nat} {sh : Nat → qC} {Rf : Nat → Nat → Option Nat} {I0 : Nat → Nat → Int32} {L0 : Nat → Nat → Int64} {post : Option Value → qS → Prop} {p1 : Int32} (hok : q_ok (qGG D cA b E)) (hw : WfTape (qGG D cA b E) n sh Rf o) (ra : RATape R o) (hR : RI R I0) (hp : ∀ (r : Int32) , (Bz r) → (gTape_isWord_0 o (tI I0) L0 (p1).toInt = r.toInt) → post (some (.int r)) (n, sh, Rf, I0, L0)) : Ev (qGG D cA b E) mTape_isWord 0 (0, 0) 0 (lv_args 0 [.ref o, .int p1]) [] (n, sh, Rf, I0, L0) post := by
  refine sTape_isWord_0 o n sh Rf I0 L0 post p1 hok hw ?_
  unfold fTape_isWord_0
  have hg : gTape_isWord_0 o (tI I0) L0 (p1).toInt = gTape_isWord_0 o (tI I0) L0 (p1).toInt := rfl
  replace hg := (eTape_isWord_0).symm.trans hg
  have g_1 : (0 : Int) ≤ (I0 o 7).toInt ∧ (I0 o 7).toInt ≤ 5 := hR.at0 ra 7 (by decide)
  replace hg := gt_let (y := (I0 o 7).toInt) rfl hg
  have l_2 : (0 : Int32).toInt = 0 := rfl
  refine ⟨fun c_3 => ?_, fun c_3 => ?_⟩
  · have d_4 := iNe c_3
    replace hg := gt_neg (by first | exact d_4 | omega) hg
    exact (hp _ (Or.inl rfl) hg.symm)
  · have d_5 := iEq c_3
    replace hg := gt_pos (by first | exact d_5 | omega) hg
    have g_6 : (0 : Int) ≤ (I0 o 10).toInt ∧ (I0 o 10).toInt ≤ 1600 := hR.at0 ra 10 (by decide)
    replace hg := gt_let (y := (I0 o 10).toInt) rfl hg
    refine ⟨tIn (by omega) (by omega), ?_⟩
    replace hg := gt_let (y := (I0 (o + 3) ((I0 o 10) : Int32).toNatClampNeg).toInt) rfl hg
    have l_7 : (1 : Int32).toInt = 1 := rfl
    refine ⟨fun c_8 => ?_, fun c_8 => ?_⟩
    · have d_9 := iNe c_8
      replace hg := gt_neg (by first | exact d_9 | omega) hg
      exact (hp _ (Or.inl rfl) hg.symm)
    · have d_10 := iEq c_8
      replace hg := gt_pos (by first | exact d_10 | omega) hg
      have g_11 : (0 : Int) ≤ (I0 o 10).toInt ∧ (I0 o 10).toInt ≤ 1600 := hR.at0 ra 10 (by decide)
      replace hg := gt_let (y := (I0 o 10).toInt) rfl hg
      refine ⟨tIn (by omega) (by omega), ?_⟩
      replace hg := gt_let (y := (I0 (o + 5) ((I0 o 10) : Int32).toNatClampNeg).toInt) rfl hg
      refine ⟨fun c_12 => ?_, fun c_12 => ?_⟩
      · have d_13 := iNe c_12
        replace hg := gt_neg (by first | exact d_13 | omega) hg
        exact (hp _ (Or.inl rfl) hg.symm)
      · have d_14 := iEq c_12
        replace hg := gt_pos (by first | exact d_14 | omega) hg
        exact (hp _ (Or.inr rfl) hg.symm)
noncomputable def gTape_isSign_0 (o : Nat) (J : gJ) (L : gL) (x1 : Int) : Int := gLet (J o 7) (fun (v_1 : Int) => (if v_1 = 0 then gLet (J o 10) (fun (v_2 : Int) => gLet (J (o + 3) (Int.toNat v_2)) (fun (v_3 : Int) => (if v_3 = 4 then gLet (J o 10) (fun (v_4 : Int) => gLet (J (o + 5) (Int.toNat v_4)) (fun (v_5 : Int) => (if v_5 = x1 then 1 else 0))) else 0))) else 0))
theorem eTape_isSign_0 {o : Nat} {J : gJ} {L : gL} {x1 : Int} : gTape_isSign_0 o J L x1 = gLet (J o 7) (fun (v_1 : Int) => (if v_1 = 0 then gLet (J o 10) (fun (v_2 : Int) => gLet (J (o + 3) (Int.toNat v_2)) (fun (v_3 : Int) => (if v_3 = 4 then gLet (J o 10) (fun (v_4 : Int) => gLet (J (o + 5) (Int.toNat v_4)) (fun (v_5 : Int) => (if v_5 = x1 then 1 else 0))) else 0))) else 0)) := rfl
set_option maxHeartbeats 4000000 in
set_option maxRecDepth 20000 in
theorem y_Tape_isSigng {D : va_G} {cA : FieldType → ClassId} {b : Nat} {E : State → Prop} {R : qRg} {o n : Nat} {sh : Nat → qC} {Rf : Nat → Nat → Option Nat} {I0 : Nat → Nat → Int32} {L0 : Nat → Nat → Int64} {post : Option Value → qS → Prop} {p1 : Int32} (hok : q_ok (qGG D cA b E)) (hw : WfTape (qGG D cA b E) n sh Rf o) (ra : RATape R o) (hR : RI R I0) (hp : ∀ (r : Int32) , (Bz r) → (Im (r.toInt ≠ 0) ((I0 (o + 3) (I0 o 10).toNatClampNeg).toInt = 4 ∧ (I0 (o + 5) (I0 o 10).toNatClampNeg).toInt = p1.toInt)) → (gTape_isSign_0 o (tI I0) L0 (p1).toInt = r.toInt) → post (some (.int r)) (n, sh, Rf, I0, L0)) : Ev (qGG D cA b E) mTape_isSign 0 (0, 0) 0 (lv_args 0 [.ref o, .int p1]) [] (n, sh, Rf, I0, L0) post := by
  refine sTape_isSign_0 o n sh Rf I0 L0 post p1 hok hw ?_
  unfold fTape_isSign_0
  have hg : gTape_isSign_0 o (tI I0) L0 (p1).toInt = gTape_isSign_0 o (tI I0) L0 (p1).toInt := rfl
  replace hg := (eTape_isSign_0).symm.trans hg
  have g_1 : (0 : Int) ≤ (I0 o 7).toInt ∧ (I0 o 7).toInt ≤ 5 := hR.at0 ra 7 (by decide)
  replace hg := gt_let (y := (I0 o 7).toInt) rfl hg
  have l_2 : (0 : Int32).toInt = 0 := rfl
  refine ⟨fun c_3 => ?_, fun c_3 => ?_⟩
  · have d_4 := iNe c_3
    replace hg := gt_neg (by first | exact d_4 | omega) hg
    exact (hp _ (Or.inl rfl) (by clear hg; intro _; omega) hg.symm)
  · have d_5 := iEq c_3
    replace hg := gt_pos (by first | exact d_5 | omega) hg
    have g_6 : (0 : Int) ≤ (I0 o 10).toInt ∧ (I0 o 10).toInt ≤ 1600 := hR.at0 ra 10 (by decide)
    replace hg := gt_let (y := (I0 o 10).toInt) rfl hg
    refine ⟨tIn (by omega) (by omega), ?_⟩
    replace hg := gt_let (y := (I0 (o + 3) ((I0 o 10) : Int32).toNatClampNeg).toInt) rfl hg
    have l_7 : (4 : Int32).toInt = 4 := rfl
    refine ⟨fun c_8 => ?_, fun c_8 => ?_⟩
    · have d_9 := iNe c_8
      replace hg := gt_neg (by first | exact d_9 | omega) hg
      exact (hp _ (Or.inl rfl) (by clear hg; intro _; omega) hg.symm)
    · have d_10 := iEq c_8
      replace hg := gt_pos (by first | exact d_10 | omega) hg
      have g_11 : (0 : Int) ≤ (I0 o 10).toInt ∧ (I0 o 10).toInt ≤ 1600 := hR.at0 ra 10 (by decide)
      replace hg := gt_let (y := (I0 o 10).toInt) rfl hg
      refine ⟨tIn (by omega) (by omega), ?_⟩
      replace hg := gt_let (y := (I0 (o + 5) ((I0 o 10) : Int32).toNatClampNeg).toInt) rfl hg
      refine ⟨fun c_12 => ?_, fun c_12 => ?_⟩
      · have d_13 := iNe c_12
        replace hg := gt_neg (by first | exact d_13 | omega) hg
        exact (hp _ (Or.inl rfl) (by clear hg; intro _; omega) hg.symm)
      · have d_14 := iEq c_12
        replace hg := gt_pos (by first | exact d_14 | omega) hg
        have l_15 : (1 : Int32).toInt = 1 := rfl
        exact (hp _ (Or.inr rfl) (by clear hg; intro _; omega) hg.symm)
noncomputable def gTape_isNumber_0 (o : Nat) (J : gJ) (L : gL) : Int := gLet (J o 7) (fun (v_1 : Int) => (if v_1 = 0 then gLet (J o 10) (fun (v_2 : Int) => gLet (J (o + 3) (Int.toNat v_2)) (fun (v_3 : Int) => (if v_3 = 2 then 1 else 0))) else 0))
theorem eTape_isNumber_0 {o : Nat} {J : gJ} {L : gL} : gTape_isNumber_0 o J L  = gLet (J o 7) (fun (v_1 : Int) => (if v_1 = 0 then gLet (J o 10) (fun (v_2 : Int) => gLet (J (o + 3) (Int.toNat v_2)) (fun (v_3 : Int) => (if v_3 = 2 then 1 else 0))) else 0)) := rfl
set_option maxHeartbeats 4000000 in
set_option maxRecDepth 20000 in
theorem y_Tape_isNumberg {D : va_G} {cA : FieldType → ClassId} {b : Nat} {E : State → Prop} {R : qRg} {o n : Nat} {sh : Nat → qC} {Rf : Nat → Nat → Option Nat} {I0 : Nat → Nat → Int32} {L0 : Nat → Nat → Int64} {post : Option Value → qS → Prop} (hok : q_ok (qGG D cA b E)) (hw : WfTape (qGG D cA b E) n sh Rf o) (ra : RATape R o) (hR : RI R I0) (hp : ∀ (r : Int32) , (Bz r) → (Im (r.toInt ≠ 0) ((I0 (o + 3) (I0 o 10).toNatClampNeg).toInt = 2)) → (gTape_isNumber_0 o (tI I0) L0 = r.toInt) → post (some (.int r)) (n, sh, Rf, I0, L0)) : Ev (qGG D cA b E) mTape_isNumber 0 (0, 0) 0 (lv_args 0 [.ref o]) [] (n, sh, Rf, I0, L0) post := by
  refine sTape_isNumber_0 o n sh Rf I0 L0 post  hok hw ?_
  unfold fTape_isNumber_0
  have hg : gTape_isNumber_0 o (tI I0) L0 = gTape_isNumber_0 o (tI I0) L0 := rfl
  replace hg := (eTape_isNumber_0).symm.trans hg
  have g_1 : (0 : Int) ≤ (I0 o 7).toInt ∧ (I0 o 7).toInt ≤ 5 := hR.at0 ra 7 (by decide)
  replace hg := gt_let (y := (I0 o 7).toInt) rfl hg
  have l_2 : (0 : Int32).toInt = 0 := rfl
  refine ⟨fun c_3 => ?_, fun c_3 => ?_⟩
  · have d_4 := iNe c_3
    replace hg := gt_neg (by first | exact d_4 | omega) hg
    exact (hp _ (Or.inl rfl) (by clear hg; intro _; omega) hg.symm)
  · have d_5 := iEq c_3
    replace hg := gt_pos (by first | exact d_5 | omega) hg
    have g_6 : (0 : Int) ≤ (I0 o 10).toInt ∧ (I0 o 10).toInt ≤ 1600 := hR.at0 ra 10 (by decide)
    replace hg := gt_let (y := (I0 o 10).toInt) rfl hg
    refine ⟨tIn (by omega) (by omega), ?_⟩
    replace hg := gt_let (y := (I0 (o + 3) ((I0 o 10) : Int32).toNatClampNeg).toInt) rfl hg
    have l_7 : (2 : Int32).toInt = 2 := rfl
    refine ⟨fun c_8 => ?_, fun c_8 => ?_⟩
    · have d_9 := iNe c_8
      replace hg := gt_neg (by first | exact d_9 | omega) hg
      exact (hp _ (Or.inl rfl) (by clear hg; intro _; omega) hg.symm)
    · have d_10 := iEq c_8
      replace hg := gt_pos (by first | exact d_10 | omega) hg
      have l_11 : (1 : Int32).toInt = 1 := rfl
      exact (hp _ (Or.inr rfl) (by clear hg; intro _; omega) hg.symm)
noncomputable def gTape_atEnd_0 (o : Nat) (J : gJ) (L : gL) : Int := gLet (J o 10) (fun (v_1 : Int) => gLet (J (o + 3) (Int.toNat v_1)) (fun (v_2 : Int) => (if v_2 = 0 then 1 else 0)))
theorem eTape_atEnd_0 {o : Nat} {J : gJ} {L : gL} : gTape_atEnd_0 o J L  = gLet (J o 10) (fun (v_1 : Int) => gLet (J (o + 3) (Int.toNat v_1)) (fun (v_2 : Int) => (if v_2 = 0 then 1 else 0))) := rfl
set_option maxHeartbeats 4000000 in
set_option maxRecDepth 20000 in
theorem y_Tape_atEndg {D : va_G} {cA : FieldType → ClassId} {b : Nat} {E : State → Prop} {R : qRg} {o n : Nat} {sh : Nat → qC} {Rf : Nat → Nat → Option Nat} {I0 : Nat → Nat → Int32} {L0 : Nat → Nat → Int64} {post : Option Value → qS → Prop} (hok : q_ok (qGG D cA b E)) (hw : WfTape (qGG D cA b E) n sh Rf o) (ra : RATape R o) (hR : RI R I0) (hp : ∀ (r : Int32) , (Bz r) → (gTape_atEnd_0 o (tI I0) L0 = r.toInt) → post (some (.int r)) (n, sh, Rf, I0, L0)) : Ev (qGG D cA b E) mTape_atEnd 0 (0, 0) 0 (lv_args 0 [.ref o]) [] (n, sh, Rf, I0, L0) post := by
  refine sTape_atEnd_0 o n sh Rf I0 L0 post  hok hw ?_
  unfold fTape_atEnd_0
  have hg : gTape_atEnd_0 o (tI I0) L0 = gTape_atEnd_0 o (tI I0) L0 := rfl
  replace hg := (eTape_atEnd_0).symm.trans hg
  have g_1 : (0 : Int) ≤ (I0 o 10).toInt ∧ (I0 o 10).toInt ≤ 1600 := hR.at0 ra 10 (by decide)
  replace hg := gt_let (y := (I0 o 10).toInt) rfl hg
  refine ⟨tIn (by omega) (by omega), ?_⟩
  replace hg := gt_let (y := (I0 (o + 3) ((I0 o 10) : Int32).toNatClampNeg).toInt) rfl hg
  have l_2 : (0 : Int32).toInt = 0 := rfl
  refine ⟨fun c_3 => ?_, fun c_3 => ?_⟩
  · have d_4 := iNe c_3
    replace hg := gt_neg (by first | exact d_4 | omega) hg
    exact (hp _ (Or.inl rfl) hg.symm)
  · have d_5 := iEq c_3
    replace hg := gt_pos (by first | exact d_5 | omega) hg
    have l_6 : (1 : Int32).toInt = 1 := rfl
    exact (hp _ (Or.inr rfl) hg.symm)
noncomputable def gTape_step_0 (o : Nat) (J : gJ) (L : gL) : Int × gJ × gL := gLet (J o 10) (fun (v_1 : Int) => gLet (J (o + 3) (Int.toNat v_1)) (fun (v_2 : Int) => (if v_2 = 0 then (0, J, L) else gLet (J o 10) (fun (v_3 : Int) => gLet (J (o + 3) (Int.toNat v_3)) (fun (v_4 : Int) => (if v_4 = 5 then (0, J, L) else gLet (J o 10) (fun (v_5 : Int) => (if 1600 ≤ v_5 then (0, J, L) else gLet (J o 10) (fun (v_6 : Int) => gLet (v_6 + 1) (fun (v_7 : Int) => gLet (q_u J o 10 v_7) (fun (J_8 : gJ) => (0, J_8, L))))))))))))
theorem eTape_step_0 {o : Nat} {J : gJ} {L : gL} : gTape_step_0 o J L  = gLet (J o 10) (fun (v_1 : Int) => gLet (J (o + 3) (Int.toNat v_1)) (fun (v_2 : Int) => (if v_2 = 0 then (0, J, L) else gLet (J o 10) (fun (v_3 : Int) => gLet (J (o + 3) (Int.toNat v_3)) (fun (v_4 : Int) => (if v_4 = 5 then (0, J, L) else gLet (J o 10) (fun (v_5 : Int) => (if 1600 ≤ v_5 then (0, J, L) else gLet (J o 10) (fun (v_6 : Int) => gLet (v_6 + 1) (fun (v_7 : Int) => gLet (q_u J o 10 v_7) (fun (J_8 : gJ) => (0, J_8, L)))))))))))) := rfl
set_option maxHeartbeats 4000000 in
set_option maxRecDepth 20000 in
theorem y_Tape_stepg {D : va_G} {cA : FieldType → ClassId} {b : Nat} {E : State → Prop} {R : qRg} {o n : Nat} {sh : Nat → qC} {Rf : Nat → Nat → Option Nat} {I0 : Nat → Nat → Int32} {L0 : Nat → Nat → Int64} {post : Option Value → qS → Prop} (hok : q_ok (qGG D cA b E)) (hw : WfTape (qGG D cA b E) n sh Rf o) (ra : RATape R o) (hR : RI R I0) (hp : ∀ (I' : Nat → Nat → Int32) (L' : Nat → Nat → Int64), RI R I' → Fm (fun c => c = o) I0 I' → ((I0 o 7).toInt ≤ (I' o 7).toInt) → (gTape_step_0 o (tI I0) L0 = (0, tI I', L')) → (FmL (fun c => False) L0 L') → post none (n, sh, Rf, I', L')) : Ev (qGG D cA b E) mTape_step 0 (0, 0) 0 (lv_args 0 [.ref o]) [] (n, sh, Rf, I0, L0) post := by
  have hf : Fm (fun c => c = o) I0 I0 := Fm.rf
  have g_1 : (0 : Int) ≤ (I0 o 7).toInt ∧ (I0 o 7).toInt ≤ 5 := hR.at0 ra 7 (by decide)
  refine sTape_step_0 o n sh Rf I0 L0 post  hok hw ?_
  unfold fTape_step_0
  have hl : FmL (fun c => False) L0 L0 := FmL.rf
  have hg : gTape_step_0 o (tI I0) L0 = gTape_step_0 o (tI I0) L0 := rfl
  replace hg := (eTape_step_0).symm.trans hg
  have g_2 : (0 : Int) ≤ (I0 o 10).toInt ∧ (I0 o 10).toInt ≤ 1600 := hR.at0 ra 10 (by decide)
  replace hg := gt_let (y := (I0 o 10).toInt) rfl hg
  refine ⟨tIn (by omega) (by omega), ?_⟩
  replace hg := gt_let (y := (I0 (o + 3) ((I0 o 10) : Int32).toNatClampNeg).toInt) rfl hg
  have l_3 : (0 : Int32).toInt = 0 := rfl
  refine ⟨fun c_4 => ?_, fun c_4 => ?_⟩
  · have d_5 := iEq c_4
    replace hg := gt_pos (by first | exact d_5 | omega) hg
    exact (hp _ _ hR hf (by first | omega | (intro h; omega) | exact Or.inl rfl | exact Or.inr rfl) hg.symm hl)
  · have d_6 := iNe c_4
    replace hg := gt_neg (by first | exact d_6 | omega) hg
    have g_7 : (0 : Int) ≤ (I0 o 10).toInt ∧ (I0 o 10).toInt ≤ 1600 := hR.at0 ra 10 (by decide)
    replace hg := gt_let (y := (I0 o 10).toInt) rfl hg
    refine ⟨tIn (by omega) (by omega), ?_⟩
    replace hg := gt_let (y := (I0 (o + 3) ((I0 o 10) : Int32).toNatClampNeg).toInt) rfl hg
    have l_8 : (5 : Int32).toInt = 5 := rfl
    refine ⟨fun c_9 => ?_, fun c_9 => ?_⟩
    · have d_10 := iEq c_9
      replace hg := gt_pos (by first | exact d_10 | omega) hg
      exact (hp _ _ hR hf (by first | omega | (intro h; omega) | exact Or.inl rfl | exact Or.inr rfl) hg.symm hl)
    · have d_11 := iNe c_9
      replace hg := gt_neg (by first | exact d_11 | omega) hg
      have g_12 : (0 : Int) ≤ (I0 o 10).toInt ∧ (I0 o 10).toInt ≤ 1600 := hR.at0 ra 10 (by decide)
      replace hg := gt_let (y := (I0 o 10).toInt) rfl hg
      have l_13 : (1600 : Int32).toInt = 1600 := rfl
      refine ⟨fun c_14 => ?_, fun c_14 => ?_⟩
      · have d_15 := iLe c_14
        replace hg := gt_pos (by first | exact d_15 | omega) hg
        exact (hp _ _ hR hf (by first | omega | (intro h; omega) | exact Or.inl rfl | exact Or.inr rfl) hg.symm hl)
      · have d_16 := iNle c_14
        replace hg := gt_neg (by first | exact d_16 | omega) hg
        have g_17 : (0 : Int) ≤ (I0 o 10).toInt ∧ (I0 o 10).toInt ≤ 1600 := hR.at0 ra 10 (by decide)
        replace hg := gt_let (y := (I0 o 10).toInt) rfl hg
        have l_18 : (1 : Int32).toInt = 1 := rfl
        have a_19 : ((I0 o 10) + 1).toInt = (I0 o 10).toInt + (1 : Int32).toInt := tAdd (by omega) (by omega)
        replace hg := gt_let (y := (((I0 o 10) + 1) : Int32).toInt) (by omega) hg
        refine fun I_20 e_21 => ?_
        replace hg := gt_let (y := tI I_20) (tI_q e_21) hg
        have hR_22 : RI R I_20 := hR.up0 (k := 10) ra (by decide) (Or.inl rfl) e_21 (show (0 : Int) ≤ ((I0 o 10) + 1).toInt by omega) (show ((I0 o 10) + 1).toInt ≤ (1600 : Int) by omega)
        have hf_23 : Fm (fun c => c = o) I0 I_20 := hf.set (by first | rfl | omega | (dsimp only; omega)) e_21
        have t_24 : (I_20 o 7).toInt = (I0 o 7).toInt := by rw [← e_21, q_u_k (by decide)]
        have t_25 : (I_20 o 10).toInt = ((I0 o 10) + 1).toInt := by rw [← e_21, q_u_at]
        exact (hp _ _ hR_22 hf_23 (by first | omega | (intro h; omega) | exact Or.inl rfl | exact Or.inr rfl) hg.symm hl)
noncomputable def gTape_refuse_26 (o : Nat) (J : gJ) (L : gL) (x1 : Int) (z0 : Int) : Int × gJ × gL := gLet (q_u J o 7 z0) (fun (J_1 : gJ) => gLet (J_1 o 10) (fun (v_2 : Int) => gLet (J_1 (o + 4) (Int.toNat v_2)) (fun (v_3 : Int) => gLet (q_u J_1 o 8 v_3) (fun (J_4 : gJ) => (0, J_4, L)))))
theorem eTape_refuse_26 {o : Nat} {J : gJ} {L : gL} {x1 : Int} {z0 : Int} : gTape_refuse_26 o J L x1 z0 = gLet (q_u J o 7 z0) (fun (J_1 : gJ) => gLet (J_1 o 10) (fun (v_2 : Int) => gLet (J_1 (o + 4) (Int.toNat v_2)) (fun (v_3 : Int) => gLet (q_u J_1 o 8 v_3) (fun (J_4 : gJ) => (0, J_4, L))))) := rfl
noncomputable def gTape_refuse_0 (o : Nat) (J : gJ) (L : gL) (x1 : Int) : Int × gJ × gL := gLet (J o 7) (fun (v_1 : Int) => (if v_1 = 0 then gLet (J o 10) (fun (v_2 : Int) => gLet (J (o + 3) (Int.toNat v_2)) (fun (v_3 : Int) => (if v_3 = 5 then (gTape_refuse_26 o J L x1 1) else (gTape_refuse_26 o J L x1 x1)))) else (0, J, L)))
theorem eTape_refuse_0 {o : Nat} {J : gJ} {L : gL} {x1 : Int} : gTape_refuse_0 o J L x1 = gLet (J o 7) (fun (v_1 : Int) => (if v_1 = 0 then gLet (J o 10) (fun (v_2 : Int) => gLet (J (o + 3) (Int.toNat v_2)) (fun (v_3 : Int) => (if v_3 = 5 then (gTape_refuse_26 o J L x1 1) else (gTape_refuse_26 o J L x1 x1)))) else (0, J, L))) := rfl
set_option maxHeartbeats 4000000 in
set_option maxRecDepth 20000 in
theorem y_Tape_refuseg {D : va_G} {cA : FieldType → ClassId} {b : Nat} {E : State → Prop} {R : qRg} {o n : Nat} {sh : Nat → qC} {Rf : Nat → Nat → Option Nat} {I0 : Nat → Nat → Int32} {L0 : Nat → Nat → Int64} {post : Option Value → qS → Prop} {p1 : Int32} (hok : q_ok (qGG D cA b E)) (hw : WfTape (qGG D cA b E) n sh Rf o) (ra : RATape R o) (hq0 : (1 : Int) ≤ p1.toInt ∧ p1.toInt ≤ 5) (hR : RI R I0) (hp : ∀ (I' : Nat → Nat → Int32) (L' : Nat → Nat → Int64), RI R I' → Fm (fun c => c = o) I0 I' → ((I0 o 7).toInt ≤ (I' o 7).toInt) → (1 ≤ (I' o 7).toInt) → (gTape_refuse_0 o (tI I0) L0 (p1).toInt = (0, tI I', L')) → (FmL (fun c => False) L0 L') → post none (n, sh, Rf, I', L')) : Ev (qGG D cA b E) mTape_refuse 0 (0, 0) 0 (lv_args 0 [.ref o, .int p1]) [] (n, sh, Rf, I0, L0) post := by
  have hf : Fm (fun c => c = o) I0 I0 := Fm.rf
  have g_1 : (0 : Int) ≤ (I0 o 7).toInt ∧ (I0 o 7).toInt ≤ 5 := hR.at0 ra 7 (by decide)
  refine sTape_refuse_0 o n sh Rf I0 L0 post p1 hok hw ?_
  unfold fTape_refuse_0
  have hl : FmL (fun c => False) L0 L0 := FmL.rf
  have hg : gTape_refuse_0 o (tI I0) L0 (p1).toInt = gTape_refuse_0 o (tI I0) L0 (p1).toInt := rfl
  replace hg := (eTape_refuse_0).symm.trans hg
  have g_2 : (0 : Int) ≤ (I0 o 7).toInt ∧ (I0 o 7).toInt ≤ 5 := hR.at0 ra 7 (by decide)
  replace hg := gt_let (y := (I0 o 7).toInt) rfl hg
  have l_3 : (0 : Int32).toInt = 0 := rfl
  refine ⟨fun c_4 => ?_, fun c_4 => ?_⟩
  · have d_5 := iNe c_4
    replace hg := gt_neg (by first | exact d_5 | omega) hg
    exact (hp _ _ hR hf (by first | omega | (intro h; omega) | exact Or.inl rfl | exact Or.inr rfl) (by first | omega | (intro h; omega) | exact Or.inl rfl | exact Or.inr rfl) hg.symm hl)
  · have d_6 := iEq c_4
    replace hg := gt_pos (by first | exact d_6 | omega) hg
    have g_7 : (0 : Int) ≤ (I0 o 10).toInt ∧ (I0 o 10).toInt ≤ 1600 := hR.at0 ra 10 (by decide)
    replace hg := gt_let (y := (I0 o 10).toInt) rfl hg
    refine ⟨tIn (by omega) (by omega), ?_⟩
    replace hg := gt_let (y := (I0 (o + 3) ((I0 o 10) : Int32).toNatClampNeg).toInt) rfl hg
    have l_8 : (5 : Int32).toInt = 5 := rfl
    refine ⟨fun c_9 => ?_, fun c_9 => ?_⟩
    · have d_10 := iNe c_9
      replace hg := gt_neg (by first | exact d_10 | omega) hg
      unfold fTape_refuse_26
      replace hg := (eTape_refuse_26).symm.trans hg
      refine fun I_11 e_12 => ?_
      replace hg := gt_let (y := tI I_11) (tI_q e_12) hg
      have hR_13 : RI R I_11 := hR.up0 (k := 7) ra (by decide) (Or.inl rfl) e_12 (show (0 : Int) ≤ p1.toInt by omega) (show p1.toInt ≤ (5 : Int) by omega)
      have hf_14 : Fm (fun c => c = o) I0 I_11 := hf.set (by first | rfl | omega | (dsimp only; omega)) e_12
      have t_15 : (I_11 o 7).toInt = p1.toInt := by rw [← e_12, q_u_at]
      have t_16 : (I_11 o 10).toInt = (I0 o 10).toInt := by rw [← e_12, q_u_k (by decide)]
      have g_17 : (0 : Int) ≤ (I_11 o 10).toInt ∧ (I_11 o 10).toInt ≤ 1600 := hR_13.at0 ra 10 (by decide)
      replace hg := gt_let (y := (I_11 o 10).toInt) rfl hg
      refine ⟨tIn (by omega) (by omega), ?_⟩
      replace hg := gt_let (y := (I_11 (o + 4) ((I_11 o 10) : Int32).toNatClampNeg).toInt) rfl hg
      refine fun I_18 e_19 => ?_
      replace hg := gt_let (y := tI I_18) (tI_q e_19) hg
      have hR_20 : RI R I_18 := hR_13.up0 (k := 8) ra (by decide) (Or.inl rfl) e_19 (i_lo _) (i_hi _)
      have hf_21 : Fm (fun c => c = o) I0 I_18 := hf_14.set (by first | rfl | omega | (dsimp only; omega)) e_19
      have t_22 : (I_18 o 7).toInt = (I_11 o 7).toInt := by rw [← e_19, q_u_k (by decide)]
      have t_23 : (I_18 o 10).toInt = (I_11 o 10).toInt := by rw [← e_19, q_u_k (by decide)]
      exact (hp _ _ hR_20 hf_21 (by first | omega | (intro h; omega) | exact Or.inl rfl | exact Or.inr rfl) (by first | omega | (intro h; omega) | exact Or.inl rfl | exact Or.inr rfl) hg.symm hl)
    · have d_24 := iEq c_9
      replace hg := gt_pos (by first | exact d_24 | omega) hg
      unfold fTape_refuse_26
      replace hg := (eTape_refuse_26).symm.trans hg
      have l_25 : (1 : Int32).toInt = 1 := rfl
      refine fun I_26 e_27 => ?_
      replace hg := gt_let (y := tI I_26) (tI_q e_27) hg
      have hR_28 : RI R I_26 := hR.up0 (k := 7) ra (by decide) (Or.inl rfl) e_27 (show (0 : Int) ≤ (1 : Int32).toInt by omega) (show (1 : Int32).toInt ≤ (5 : Int) by omega)
      have hf_29 : Fm (fun c => c = o) I0 I_26 := hf.set (by first | rfl | omega | (dsimp only; omega)) e_27
      have t_30 : (I_26 o 7).toInt = (1 : Int32).toInt := by rw [← e_27, q_u_at]
      have t_31 : (I_26 o 10).toInt = (I0 o 10).toInt := by rw [← e_27, q_u_k (by decide)]
      have g_32 : (0 : Int) ≤ (I_26 o 10).toInt ∧ (I_26 o 10).toInt ≤ 1600 := hR_28.at0 ra 10 (by decide)
      replace hg := gt_let (y := (I_26 o 10).toInt) rfl hg
      refine ⟨tIn (by omega) (by omega), ?_⟩
      replace hg := gt_let (y := (I_26 (o + 4) ((I_26 o 10) : Int32).toNatClampNeg).toInt) rfl hg
      refine fun I_33 e_34 => ?_
      replace hg := gt_let (y := tI I_33) (tI_q e_34) hg
      have hR_35 : RI R I_33 := hR_28.up0 (k := 8) ra (by decide) (Or.inl rfl) e_34 (i_lo _) (i_hi _)
      have hf_36 : Fm (fun c => c = o) I0 I_33 := hf_29.set (by first | rfl | omega | (dsimp only; omega)) e_34
      have t_37 : (I_33 o 7).toInt = (I_26 o 7).toInt := by rw [← e_34, q_u_k (by decide)]
      have t_38 : (I_33 o 10).toInt = (I_26 o 10).toInt := by rw [← e_34, q_u_k (by decide)]
      exact (hp _ _ hR_35 hf_36 (by first | omega | (intro h; omega) | exact Or.inl rfl | exact Or.inr rfl) (by first | omega | (intro h; omega) | exact Or.inl rfl | exact Or.inr rfl) hg.symm hl)
noncomputable def gTape_passIf_0 (o : Nat) (J : gJ) (L : gL) (x1 : Int) : Int × gJ × gL := (if x1 = 0 then gB3 (gTape_refuse_0 o J L 2) (fun r_1 J_2 L_3 => (0, J_2, L_3)) else gB3 (gTape_step_0 o J L) (fun r_4 J_5 L_6 => (0, J_5, L_6)))
theorem eTape_passIf_0 {o : Nat} {J : gJ} {L : gL} {x1 : Int} : gTape_passIf_0 o J L x1 = (if x1 = 0 then gB3 (gTape_refuse_0 o J L 2) (fun r_1 J_2 L_3 => (0, J_2, L_3)) else gB3 (gTape_step_0 o J L) (fun r_4 J_5 L_6 => (0, J_5, L_6))) := rfl
set_option maxHeartbeats 4000000 in
set_option maxRecDepth 20000 in
theorem y_Tape_passIfg {D : va_G} {cA : FieldType → ClassId} {b : Nat} {E : State → Prop} {R : qRg} {o n : Nat} {sh : Nat → qC} {Rf : Nat → Nat → Option Nat} {I0 : Nat → Nat → Int32} {L0 : Nat → Nat → Int64} {post : Option Value → qS → Prop} {p1 : Int32} (hok : q_ok (qGG D cA b E)) (hw : WfTape (qGG D cA b E) n sh Rf o) (ra : RATape R o) (hR : RI R I0) (hp : ∀ (I' : Nat → Nat → Int32) (L' : Nat → Nat → Int64), RI R I' → Fm (fun c => c = o) I0 I' → ((I0 o 7).toInt ≤ (I' o 7).toInt) → (gTape_passIf_0 o (tI I0) L0 (p1).toInt = (0, tI I', L')) → (FmL (fun c => False) L0 L') → post none (n, sh, Rf, I', L')) : Ev (qGG D cA b E) mTape_passIf 1 (0, 0) 0 (lv_args 0 [.ref o, .int p1]) [] (n, sh, Rf, I0, L0) post := by
  have hf : Fm (fun c => c = o) I0 I0 := Fm.rf
  have g_1 : (0 : Int) ≤ (I0 o 7).toInt ∧ (I0 o 7).toInt ≤ 5 := hR.at0 ra 7 (by decide)
  refine sTape_passIf_0 o n sh Rf I0 L0 post p1 hok hw ?_
  unfold fTape_passIf_0
  have hl : FmL (fun c => False) L0 L0 := FmL.rf
  have hg : gTape_passIf_0 o (tI I0) L0 (p1).toInt = gTape_passIf_0 o (tI I0) L0 (p1).toInt := rfl
  replace hg := (eTape_passIf_0).symm.trans hg
  have l_2 : (0 : Int32).toInt = 0 := rfl
  refine ⟨fun c_3 => ?_, fun c_3 => ?_⟩
  · have d_4 := iEq c_3
    replace hg := gt_pos (by first | exact d_4 | omega) hg
    have l_5 : (2 : Int32).toInt = 2 := rfl
    refine y_Tape_refuseg hok hw ra (by first | omega | (intro h; omega) | exact Or.inl rfl | exact Or.inr rfl) hR (fun I_11 L_12 hR_13 fr_14 u_7 u_8 gn_9 ln_10 => ⟨I_11, L_12, rfl, rfl, ?_⟩)
    replace hl := hl.call ln_10 (fun c hc => by first | exact hc | exact False.elim hc | (dsimp only at hc ⊢; omega) | omega)
    replace hg := gt_b3 gn_9 hg
    clear gn_9
    have hf_15 : Fm (fun c => c = o) I0 I_11 := hf.call fr_14 (fun c hc => by first | exact hc | (dsimp only at hc ⊢; omega) | omega)
    have g_16 : (0 : Int) ≤ (I_11 o 7).toInt ∧ (I_11 o 7).toInt ≤ 5 := hR_13.at0 ra 7 (by decide)
    exact (hp _ _ hR_13 hf_15 (by first | omega | (intro h; omega) | exact Or.inl rfl | exact Or.inr rfl) hg.symm hl)
  · have d_17 := iNe c_3
    replace hg := gt_neg (by first | exact d_17 | omega) hg
    refine y_Tape_stepg hok hw ra hR (fun I_22 L_23 hR_24 fr_25 u_19 gn_20 ln_21 => ⟨I_22, L_23, rfl, rfl, ?_⟩)
    replace hl := hl.call ln_21 (fun c hc => by first | exact hc | exact False.elim hc | (dsimp only at hc ⊢; omega) | omega)
    replace hg := gt_b3 gn_20 hg
    clear gn_20
    have hf_26 : Fm (fun c => c = o) I0 I_22 := hf.call fr_25 (fun c hc => by first | exact hc | (dsimp only at hc ⊢; omega) | omega)
    have g_27 : (0 : Int) ≤ (I_22 o 7).toInt ∧ (I_22 o 7).toInt ≤ 5 := hR_24.at0 ra 7 (by decide)
    exact (hp _ _ hR_24 hf_26 (by first | omega | (intro h; omega) | exact Or.inl rfl | exact Or.inr rfl) hg.symm hl)
noncomputable def gTape_closeLine_0 (o : Nat) (J : gJ) (L : gL) : Int × gJ × gL := gLet (gTape_isSign_0 o J L 59) (fun (r_1 : Int) => gB3 (gTape_passIf_0 o J L r_1) (fun r_2 J_3 L_4 => gLet (J_3 o 7) (fun (v_5 : Int) => (if v_5 = 0 then (1, J_3, L_4) else (0, J_3, L_4)))))
theorem eTape_closeLine_0 {o : Nat} {J : gJ} {L : gL} : gTape_closeLine_0 o J L  = gLet (gTape_isSign_0 o J L 59) (fun (r_1 : Int) => gB3 (gTape_passIf_0 o J L r_1) (fun r_2 J_3 L_4 => gLet (J_3 o 7) (fun (v_5 : Int) => (if v_5 = 0 then (1, J_3, L_4) else (0, J_3, L_4))))) := rfl
set_option maxHeartbeats 4000000 in
set_option maxRecDepth 20000 in
theorem y_Tape_closeLineg {D : va_G} {cA : FieldType → ClassId} {b : Nat} {E : State → Prop} {R : qRg} {o n : Nat} {sh : Nat → qC} {Rf : Nat → Nat → Option Nat} {I0 : Nat → Nat → Int32} {L0 : Nat → Nat → Int64} {post : Option Value → qS → Prop} (hok : q_ok (qGG D cA b E)) (hw : WfTape (qGG D cA b E) n sh Rf o) (ra : RATape R o) (hR : RI R I0) (hp : ∀ (r : Int32) (I' : Nat → Nat → Int32) (L' : Nat → Nat → Int64), RI R I' → Fm (fun c => c = o) I0 I' → (Bz r) → ((I0 o 7).toInt ≤ (I' o 7).toInt) → ((I' o 7).toInt + 5 * r.toInt ≤ 5) → (gTape_closeLine_0 o (tI I0) L0 = (r.toInt, tI I', L')) → (FmL (fun c => False) L0 L') → post (some (.int r)) (n, sh, Rf, I', L')) : Ev (qGG D cA b E) mTape_closeLine 2 (0, 0) 0 (lv_args 0 [.ref o]) [] (n, sh, Rf, I0, L0) post := by
  have hf : Fm (fun c => c = o) I0 I0 := Fm.rf
  have g_1 : (0 : Int) ≤ (I0 o 7).toInt ∧ (I0 o 7).toInt ≤ 5 := hR.at0 ra 7 (by decide)
  refine sTape_closeLine_0 o n sh Rf I0 L0 post  hok hw ?_
  unfold fTape_closeLine_0
  have hl : FmL (fun c => False) L0 L0 := FmL.rf
  have hg : gTape_closeLine_0 o (tI I0) L0 = gTape_closeLine_0 o (tI I0) L0 := rfl
  replace hg := (eTape_closeLine_0).symm.trans hg
  have l_2 : (59 : Int32).toInt = 59 := rfl
  refine y_Tape_isSigng hok hw ra hR (fun r_3 u_4 u_5 gn_6 => ⟨r_3, I0, L0, rfl, rfl, ?_⟩)
  replace hg := gt_let gn_6 hg
  clear gn_6
  have b_7 : 0 ≤ r_3.toInt ∧ r_3.toInt ≤ 1 := u_4.rg
  refine y_Tape_passIfg hok hw ra hR (fun I_12 L_13 hR_14 fr_15 u_9 gn_10 ln_11 => ⟨I_12, L_13, rfl, rfl, ?_⟩)
  replace hl := hl.call ln_11 (fun c hc => by first | exact hc | exact False.elim hc | (dsimp only at hc ⊢; omega) | omega)
  replace hg := gt_b3 gn_10 hg
  clear gn_10
  have hf_16 : Fm (fun c => c = o) I0 I_12 := hf.call fr_15 (fun c hc => by first | exact hc | (dsimp only at hc ⊢; omega) | omega)
  have g_17 : (0 : Int) ≤ (I_12 o 7).toInt ∧ (I_12 o 7).toInt ≤ 5 := hR_14.at0 ra 7 (by decide)
  have g_18 : (0 : Int) ≤ (I_12 o 7).toInt ∧ (I_12 o 7).toInt ≤ 5 := hR_14.at0 ra 7 (by decide)
  replace hg := gt_let (y := (I_12 o 7).toInt) rfl hg
  have l_19 : (0 : Int32).toInt = 0 := rfl
  refine ⟨fun c_20 => ?_, fun c_20 => ?_⟩
  · have d_21 := iNe c_20
    replace hg := gt_neg (by first | exact d_21 | omega) hg
    exact (hp _ _ _ hR_14 hf_16 (Or.inl rfl) (by first | omega | (intro h; omega) | exact Or.inl rfl | exact Or.inr rfl) (by first | omega | (intro h; omega) | exact Or.inl rfl | exact Or.inr rfl) hg.symm hl)
  · have d_22 := iEq c_20
    replace hg := gt_pos (by first | exact d_22 | omega) hg
    have l_23 : (1 : Int32).toInt = 1 := rfl
    exact (hp _ _ _ hR_14 hf_16 (Or.inr rfl) (by first | omega | (intro h; omega) | exact Or.inl rfl | exact Or.inr rfl) (by first | omega | (intro h; omega) | exact Or.inl rfl | exact Or.inr rfl) hg.symm hl)
noncomputable def gTape_takeNumber_35 (o : Nat) (J : gJ) (L : gL) (x1 : Int) (x2 : Int) (x3 : Int) : Int × gJ × gL := gB3 (gTape_refuse_0 o J L 4) (fun r_1 J_2 L_3 => ((-1), J_2, L_3))
theorem eTape_takeNumber_35 {o : Nat} {J : gJ} {L : gL} {x1 : Int} {x2 : Int} {x3 : Int} : gTape_takeNumber_35 o J L x1 x2 x3 = gB3 (gTape_refuse_0 o J L 4) (fun r_1 J_2 L_3 => ((-1), J_2, L_3)) := rfl
noncomputable def gTape_takeNumber_0 (o : Nat) (J : gJ) (L : gL) (x1 : Int) (x2 : Int) : Int × gJ × gL := gLet (J o 10) (fun (v_1 : Int) => gLet (J (o + 5) (Int.toNat v_1)) (fun (v_2 : Int) => gLet (gTape_isNumber_0 o J L) (fun (r_3 : Int) => (if r_3 = 0 then gB3 (gTape_refuse_0 o J L 2) (fun r_7 J_8 L_9 => ((-1), J_8, L_9)) else (if v_2 < x1 then (gTape_takeNumber_35 o J L x1 x2 v_2) else (if v_2 ≤ x2 then gB3 (gTape_step_0 o J L) (fun r_4 J_5 L_6 => (v_2, J_5, L_6)) else (gTape_takeNumber_35 o J L x1 x2 v_2)))))))
theorem eTape_takeNumber_0 {o : Nat} {J : gJ} {L : gL} {x1 : Int} {x2 : Int} : gTape_takeNumber_0 o J L x1 x2 = gLet (J o 10) (fun (v_1 : Int) => gLet (J (o + 5) (Int.toNat v_1)) (fun (v_2 : Int) => gLet (gTape_isNumber_0 o J L) (fun (r_3 : Int) => (if r_3 = 0 then gB3 (gTape_refuse_0 o J L 2) (fun r_7 J_8 L_9 => ((-1), J_8, L_9)) else (if v_2 < x1 then (gTape_takeNumber_35 o J L x1 x2 v_2) else (if v_2 ≤ x2 then gB3 (gTape_step_0 o J L) (fun r_4 J_5 L_6 => (v_2, J_5, L_6)) else (gTape_takeNumber_35 o J L x1 x2 v_2))))))) := rfl
set_option maxHeartbeats 4000000 in
set_option maxRecDepth 20000 in
theorem y_Tape_takeNumberg {D : va_G} {cA : FieldType → ClassId} {b : Nat} {E : State → Prop} {R : qRg} {o n : Nat} {sh : Nat → qC} {Rf : Nat → Nat → Option Nat} {I0 : Nat → Nat → Int32} {L0 : Nat → Nat → Int64} {post : Option Value → qS → Prop} {p1 : Int32} {p2 : Int32} (hok : q_ok (qGG D cA b E)) (hw : WfTape (qGG D cA b E) n sh Rf o) (ra : RATape R o) (hq0 : (0 : Int) ≤ p1.toInt ∧ p1.toInt ≤ 9999) (hq1 : (0 : Int) ≤ p2.toInt ∧ p2.toInt ≤ 9999) (hR : RI R I0) (hp : ∀ (r : Int32) (I' : Nat → Nat → Int32) (L' : Nat → Nat → Int64), RI R I' → Fm (fun c => c = o) I0 I' → (((-1 : Int) ≤ r.toInt ∧ r.toInt ≤ 9999)) → ((I0 o 7).toInt ≤ (I' o 7).toInt) → (r.toInt ≤ p2.toInt) → (gTape_takeNumber_0 o (tI I0) L0 (p1).toInt (p2).toInt = (r.toInt, tI I', L')) → (FmL (fun c => False) L0 L') → post (some (.int r)) (n, sh, Rf, I', L')) : Ev (qGG D cA b E) mTape_takeNumber 1 (0, 0) 0 (lv_args 0 [.ref o, .int p1, .int p2]) [] (n, sh, Rf, I0, L0) post := by
  have hf : Fm (fun c => c = o) I0 I0 := Fm.rf
  have g_1 : (0 : Int) ≤ (I0 o 7).toInt ∧ (I0 o 7).toInt ≤ 5 := hR.at0 ra 7 (by decide)
  refine sTape_takeNumber_0 o n sh Rf I0 L0 post p1 p2 hok hw ?_
  unfold fTape_takeNumber_0
  have hl : FmL (fun c => False) L0 L0 := FmL.rf
  have hg : gTape_takeNumber_0 o (tI I0) L0 (p1).toInt (p2).toInt = gTape_takeNumber_0 o (tI I0) L0 (p1).toInt (p2).toInt := rfl
  replace hg := (eTape_takeNumber_0).symm.trans hg
  have g_2 : (0 : Int) ≤ (I0 o 10).toInt ∧ (I0 o 10).toInt ≤ 1600 := hR.at0 ra 10 (by decide)
  replace hg := gt_let (y := (I0 o 10).toInt) rfl hg
  refine ⟨tIn (by omega) (by omega), ?_⟩
  replace hg := gt_let (y := (I0 (o + 5) ((I0 o 10) : Int32).toNatClampNeg).toInt) rfl hg
  refine y_Tape_isNumberg hok hw ra hR (fun r_3 u_4 u_5 gn_6 => ⟨r_3, I0, L0, rfl, rfl, ?_⟩)
  replace hg := gt_let gn_6 hg
  clear gn_6
  have b_7 : 0 ≤ r_3.toInt ∧ r_3.toInt ≤ 1 := u_4.rg
  have l_8 : (0 : Int32).toInt = 0 := rfl
  refine ⟨fun c_9 => ?_, fun c_9 => ?_⟩
  · have d_10 := iNe c_9
    replace hg := gt_neg (by first | exact d_10 | omega) hg
    refine ⟨fun c_11 => ?_, fun c_11 => ?_⟩
    · have d_12 := iLt c_11
      replace hg := gt_pos (by first | exact d_12 | omega) hg
      unfold fTape_takeNumber_35
      replace hg := (eTape_takeNumber_35).symm.trans hg
      have l_13 : (4 : Int32).toInt = 4 := rfl
      refine y_Tape_refuseg hok hw ra (by first | omega | (intro h; omega) | exact Or.inl rfl | exact Or.inr rfl) hR (fun I_19 L_20 hR_21 fr_22 u_15 u_16 gn_17 ln_18 => ⟨I_19, L_20, rfl, rfl, ?_⟩)
      replace hl := hl.call ln_18 (fun c hc => by first | exact hc | exact False.elim hc | (dsimp only at hc ⊢; omega) | omega)
      replace hg := gt_b3 gn_17 hg
      clear gn_17
      have hf_23 : Fm (fun c => c = o) I0 I_19 := hf.call fr_22 (fun c hc => by first | exact hc | (dsimp only at hc ⊢; omega) | omega)
      have g_24 : (0 : Int) ≤ (I_19 o 7).toInt ∧ (I_19 o 7).toInt ≤ 5 := hR_21.at0 ra 7 (by decide)
      have g_25 : (0 : Int) ≤ (I_19 o 10).toInt ∧ (I_19 o 10).toInt ≤ 1600 := hR_21.at0 ra 10 (by decide)
      have l_26 : (-1 : Int32).toInt = -1 := rfl
      exact (hp _ _ _ hR_21 hf_23 (by first | omega | (intro h; omega) | exact Or.inl rfl | exact Or.inr rfl) (by first | omega | (intro h; omega) | exact Or.inl rfl | exact Or.inr rfl) (by first | omega | (intro h; omega) | exact Or.inl rfl | exact Or.inr rfl) hg.symm hl)
    · have d_27 := iNlt c_11
      replace hg := gt_neg (by first | exact d_27 | omega) hg
      refine ⟨fun c_28 => ?_, fun c_28 => ?_⟩
      · have d_29 := iLe c_28
        replace hg := gt_pos (by first | exact d_29 | omega) hg
        refine y_Tape_stepg hok hw ra hR (fun I_34 L_35 hR_36 fr_37 u_31 gn_32 ln_33 => ⟨I_34, L_35, rfl, rfl, ?_⟩)
        replace hl := hl.call ln_33 (fun c hc => by first | exact hc | exact False.elim hc | (dsimp only at hc ⊢; omega) | omega)
        replace hg := gt_b3 gn_32 hg
        clear gn_32
        have hf_38 : Fm (fun c => c = o) I0 I_34 := hf.call fr_37 (fun c hc => by first | exact hc | (dsimp only at hc ⊢; omega) | omega)
        have g_39 : (0 : Int) ≤ (I_34 o 7).toInt ∧ (I_34 o 7).toInt ≤ 5 := hR_36.at0 ra 7 (by decide)
        have g_40 : (0 : Int) ≤ (I_34 o 10).toInt ∧ (I_34 o 10).toInt ≤ 1600 := hR_36.at0 ra 10 (by decide)
        exact (hp _ _ _ hR_36 hf_38 (by first | omega | (intro h; omega) | exact Or.inl rfl | exact Or.inr rfl) (by first | omega | (intro h; omega) | exact Or.inl rfl | exact Or.inr rfl) (by first | omega | (intro h; omega) | exact Or.inl rfl | exact Or.inr rfl) hg.symm hl)
      · have d_41 := iNle c_28
        replace hg := gt_neg (by first | exact d_41 | omega) hg
        unfold fTape_takeNumber_35
        replace hg := (eTape_takeNumber_35).symm.trans hg
        have l_42 : (4 : Int32).toInt = 4 := rfl
        refine y_Tape_refuseg hok hw ra (by first | omega | (intro h; omega) | exact Or.inl rfl | exact Or.inr rfl) hR (fun I_48 L_49 hR_50 fr_51 u_44 u_45 gn_46 ln_47 => ⟨I_48, L_49, rfl, rfl, ?_⟩)
        replace hl := hl.call ln_47 (fun c hc => by first | exact hc | exact False.elim hc | (dsimp only at hc ⊢; omega) | omega)
        replace hg := gt_b3 gn_46 hg
        clear gn_46
        have hf_52 : Fm (fun c => c = o) I0 I_48 := hf.call fr_51 (fun c hc => by first | exact hc | (dsimp only at hc ⊢; omega) | omega)
        have g_53 : (0 : Int) ≤ (I_48 o 7).toInt ∧ (I_48 o 7).toInt ≤ 5 := hR_50.at0 ra 7 (by decide)
        have g_54 : (0 : Int) ≤ (I_48 o 10).toInt ∧ (I_48 o 10).toInt ≤ 1600 := hR_50.at0 ra 10 (by decide)
        have l_55 : (-1 : Int32).toInt = -1 := rfl
        exact (hp _ _ _ hR_50 hf_52 (by first | omega | (intro h; omega) | exact Or.inl rfl | exact Or.inr rfl) (by first | omega | (intro h; omega) | exact Or.inl rfl | exact Or.inr rfl) (by first | omega | (intro h; omega) | exact Or.inl rfl | exact Or.inr rfl) hg.symm hl)
  · have d_56 := iEq c_9
    replace hg := gt_pos (by first | exact d_56 | omega) hg
    have l_57 : (2 : Int32).toInt = 2 := rfl
    refine y_Tape_refuseg hok hw ra (by first | omega | (intro h; omega) | exact Or.inl rfl | exact Or.inr rfl) hR (fun I_63 L_64 hR_65 fr_66 u_59 u_60 gn_61 ln_62 => ⟨I_63, L_64, rfl, rfl, ?_⟩)
    replace hl := hl.call ln_62 (fun c hc => by first | exact hc | exact False.elim hc | (dsimp only at hc ⊢; omega) | omega)
    replace hg := gt_b3 gn_61 hg
    clear gn_61
    have hf_67 : Fm (fun c => c = o) I0 I_63 := hf.call fr_66 (fun c hc => by first | exact hc | (dsimp only at hc ⊢; omega) | omega)
    have g_68 : (0 : Int) ≤ (I_63 o 7).toInt ∧ (I_63 o 7).toInt ≤ 5 := hR_65.at0 ra 7 (by decide)
    have g_69 : (0 : Int) ≤ (I_63 o 10).toInt ∧ (I_63 o 10).toInt ≤ 1600 := hR_65.at0 ra 10 (by decide)
    have l_70 : (-1 : Int32).toInt = -1 := rfl
    exact (hp _ _ _ hR_65 hf_67 (by first | omega | (intro h; omega) | exact Or.inl rfl | exact Or.inr rfl) (by first | omega | (intro h; omega) | exact Or.inl rfl | exact Or.inr rfl) (by first | omega | (intro h; omega) | exact Or.inl rfl | exact Or.inr rfl) hg.symm hl)
noncomputable def gTape_takeNumberBehind_0 (o : Nat) (J : gJ) (L : gL) (x1 : Int) (x2 : Int) (x3 : Int) : Int × gJ × gL := gLet (gTape_isWord_0 o J L x1) (fun (r_1 : Int) => gB3 (gTape_passIf_0 o J L r_1) (fun r_2 J_3 L_4 => gB3 (gTape_takeNumber_0 o J_3 L_4 x2 x3) (fun r_5 J_6 L_7 => (r_5, J_6, L_7))))
theorem eTape_takeNumberBehind_0 {o : Nat} {J : gJ} {L : gL} {x1 : Int} {x2 : Int} {x3 : Int} : gTape_takeNumberBehind_0 o J L x1 x2 x3 = gLet (gTape_isWord_0 o J L x1) (fun (r_1 : Int) => gB3 (gTape_passIf_0 o J L r_1) (fun r_2 J_3 L_4 => gB3 (gTape_takeNumber_0 o J_3 L_4 x2 x3) (fun r_5 J_6 L_7 => (r_5, J_6, L_7)))) := rfl
set_option maxHeartbeats 4000000 in
set_option maxRecDepth 20000 in
theorem y_Tape_takeNumberBehindg {D : va_G} {cA : FieldType → ClassId} {b : Nat} {E : State → Prop} {R : qRg} {o n : Nat} {sh : Nat → qC} {Rf : Nat → Nat → Option Nat} {I0 : Nat → Nat → Int32} {L0 : Nat → Nat → Int64} {post : Option Value → qS → Prop} {p1 : Int32} {p2 : Int32} {p3 : Int32} (hok : q_ok (qGG D cA b E)) (hw : WfTape (qGG D cA b E) n sh Rf o) (ra : RATape R o) (hq0 : (0 : Int) ≤ p2.toInt ∧ p2.toInt ≤ 9999) (hq1 : (0 : Int) ≤ p3.toInt ∧ p3.toInt ≤ 9999) (hR : RI R I0) (hp : ∀ (r : Int32) (I' : Nat → Nat → Int32) (L' : Nat → Nat → Int64), RI R I' → Fm (fun c => c = o) I0 I' → (((-1 : Int) ≤ r.toInt ∧ r.toInt ≤ 9999)) → ((I0 o 7).toInt ≤ (I' o 7).toInt) → (r.toInt ≤ p3.toInt) → (gTape_takeNumberBehind_0 o (tI I0) L0 (p1).toInt (p2).toInt (p3).toInt = (r.toInt, tI I', L')) → (FmL (fun c => False) L0 L') → post (some (.int r)) (n, sh, Rf, I', L')) : Ev (qGG D cA b E) mTape_takeNumberBehind 2 (0, 0) 0 (lv_args 0 [.ref o, .int p1, .int p2, .int p3]) [] (n, sh, Rf, I0, L0) post := by
  have hf : Fm (fun c => c = o) I0 I0 := Fm.rf
  have g_1 : (0 : Int) ≤ (I0 o 7).toInt ∧ (I0 o 7).toInt ≤ 5 := hR.at0 ra 7 (by decide)
  refine sTape_takeNumberBehind_0 o n sh Rf I0 L0 post p1 p2 p3 hok hw ?_
  unfold fTape_takeNumberBehind_0
  have hl : FmL (fun c => False) L0 L0 := FmL.rf
  have hg : gTape_takeNumberBehind_0 o (tI I0) L0 (p1).toInt (p2).toInt (p3).toInt = gTape_takeNumberBehind_0 o (tI I0) L0 (p1).toInt (p2).toInt (p3).toInt := rfl
  replace hg := (eTape_takeNumberBehind_0).symm.trans hg
  refine y_Tape_isWordg hok hw ra hR (fun r_2 u_3 gn_4 => ⟨r_2, I0, L0, rfl, rfl, ?_⟩)
  replace hg := gt_let gn_4 hg
  clear gn_4
  have b_5 : 0 ≤ r_2.toInt ∧ r_2.toInt ≤ 1 := u_3.rg
  refine y_Tape_passIfg hok hw ra hR (fun I_10 L_11 hR_12 fr_13 u_7 gn_8 ln_9 => ⟨I_10, L_11, rfl, rfl, ?_⟩)
  replace hl := hl.call ln_9 (fun c hc => by first | exact hc | exact False.elim hc | (dsimp only at hc ⊢; omega) | omega)
  replace hg := gt_b3 gn_8 hg
  clear gn_8
  have hf_14 : Fm (fun c => c = o) I0 I_10 := hf.call fr_13 (fun c hc => by first | exact hc | (dsimp only at hc ⊢; omega) | omega)
  have g_15 : (0 : Int) ≤ (I_10 o 7).toInt ∧ (I_10 o 7).toInt ≤ 5 := hR_12.at0 ra 7 (by decide)
  refine y_Tape_takeNumberg hok hw ra (by first | omega | (intro h; omega) | exact Or.inl rfl | exact Or.inr rfl) (by first | omega | (intro h; omega) | exact Or.inl rfl | exact Or.inr rfl) hR_12 (fun r_16 I_22 L_23 hR_24 fr_25 u_17 u_18 u_19 gn_20 ln_21 => ⟨r_16, I_22, L_23, rfl, rfl, ?_⟩)
  replace hl := hl.call ln_21 (fun c hc => by first | exact hc | exact False.elim hc | (dsimp only at hc ⊢; omega) | omega)
  replace hg := gt_b3 gn_20 hg
  clear gn_20
  have hf_26 : Fm (fun c => c = o) I0 I_22 := hf_14.call fr_25 (fun c hc => by first | exact hc | (dsimp only at hc ⊢; omega) | omega)
  have g_27 : (0 : Int) ≤ (I_22 o 7).toInt ∧ (I_22 o 7).toInt ≤ 5 := hR_24.at0 ra 7 (by decide)
  exact (hp _ _ _ hR_24 hf_26 (by first | omega | (intro h; omega) | exact Or.inl rfl | exact Or.inr rfl) (by first | omega | (intro h; omega) | exact Or.inl rfl | exact Or.inr rfl) (by first | omega | (intro h; omega) | exact Or.inl rfl | exact Or.inr rfl) hg.symm hl)
noncomputable def gTape_takePlaceUnlike_30 (o : Nat) (J : gJ) (L : gL) (x1 : Int) (x2 : Int) : Int × gJ × gL := gB3 (gTape_refuse_0 o J L 2) (fun r_1 J_2 L_3 => ((-1), J_2, L_3))
theorem eTape_takePlaceUnlike_30 {o : Nat} {J : gJ} {L : gL} {x1 : Int} {x2 : Int} : gTape_takePlaceUnlike_30 o J L x1 x2 = gB3 (gTape_refuse_0 o J L 2) (fun r_1 J_2 L_3 => ((-1), J_2, L_3)) := rfl
noncomputable def gTape_takePlaceUnlike_0 (o : Nat) (J : gJ) (L : gL) (x1 : Int) : Int × gJ × gL := gLet (J o 10) (fun (v_1 : Int) => gLet (J (o + 5) (Int.toNat v_1)) (fun (v_2 : Int) => gLet (J o 7) (fun (v_3 : Int) => (if v_3 = 0 then gLet (J o 10) (fun (v_4 : Int) => gLet (J (o + 3) (Int.toNat v_4)) (fun (v_5 : Int) => (if v_5 = 3 then (if v_2 = x1 then gB3 (gTape_refuse_0 o J L 4) (fun r_9 J_10 L_11 => ((-1), J_10, L_11)) else gB3 (gTape_step_0 o J L) (fun r_6 J_7 L_8 => (v_2, J_7, L_8))) else (gTape_takePlaceUnlike_30 o J L x1 v_2)))) else (gTape_takePlaceUnlike_30 o J L x1 v_2)))))
theorem eTape_takePlaceUnlike_0 {o : Nat} {J : gJ} {L : gL} {x1 : Int} : gTape_takePlaceUnlike_0 o J L x1 = gLet (J o 10) (fun (v_1 : Int) => gLet (J (o + 5) (Int.toNat v_1)) (fun (v_2 : Int) => gLet (J o 7) (fun (v_3 : Int) => (if v_3 = 0 then gLet (J o 10) (fun (v_4 : Int) => gLet (J (o + 3) (Int.toNat v_4)) (fun (v_5 : Int) => (if v_5 = 3 then (if v_2 = x1 then gB3 (gTape_refuse_0 o J L 4) (fun r_9 J_10 L_11 => ((-1), J_10, L_11)) else gB3 (gTape_step_0 o J L) (fun r_6 J_7 L_8 => (v_2, J_7, L_8))) else (gTape_takePlaceUnlike_30 o J L x1 v_2)))) else (gTape_takePlaceUnlike_30 o J L x1 v_2))))) := rfl
set_option maxHeartbeats 4000000 in
set_option maxRecDepth 20000 in
theorem y_Tape_takePlaceUnlikeg {D : va_G} {cA : FieldType → ClassId} {b : Nat} {E : State → Prop} {R : qRg} {o n : Nat} {sh : Nat → qC} {Rf : Nat → Nat → Option Nat} {I0 : Nat → Nat → Int32} {L0 : Nat → Nat → Int64} {post : Option Value → qS → Prop} {p1 : Int32} (hok : q_ok (qGG D cA b E)) (hw : WfTape (qGG D cA b E) n sh Rf o) (ra : RATape R o) (hq0 : TokOK I0 o) (hR : RI R I0) (hp : ∀ (r : Int32) (I' : Nat → Nat → Int32) (L' : Nat → Nat → Int64), RI R I' → Fm (fun c => c = o) I0 I' → (((-1 : Int) ≤ r.toInt ∧ r.toInt ≤ 15)) → ((I0 o 7).toInt ≤ (I' o 7).toInt) → (0 ≤ r.toInt + (I' o 7).toInt) → (gTape_takePlaceUnlike_0 o (tI I0) L0 (p1).toInt = (r.toInt, tI I', L')) → (FmL (fun c => False) L0 L') → post (some (.int r)) (n, sh, Rf, I', L')) : Ev (qGG D cA b E) mTape_takePlaceUnlike 1 (0, 0) 0 (lv_args 0 [.ref o, .int p1]) [] (n, sh, Rf, I0, L0) post := by
  have hf : Fm (fun c => c = o) I0 I0 := Fm.rf
  have g_1 : (0 : Int) ≤ (I0 o 7).toInt ∧ (I0 o 7).toInt ≤ 5 := hR.at0 ra 7 (by decide)
  refine sTape_takePlaceUnlike_0 o n sh Rf I0 L0 post p1 hok hw ?_
  unfold fTape_takePlaceUnlike_0
  have hl : FmL (fun c => False) L0 L0 := FmL.rf
  have hg : gTape_takePlaceUnlike_0 o (tI I0) L0 (p1).toInt = gTape_takePlaceUnlike_0 o (tI I0) L0 (p1).toInt := rfl
  replace hg := (eTape_takePlaceUnlike_0).symm.trans hg
  have tk := (hq0 (I0 o 10).toNatClampNeg).2
  have g_2 : (0 : Int) ≤ (I0 o 10).toInt ∧ (I0 o 10).toInt ≤ 1600 := hR.at0 ra 10 (by decide)
  replace hg := gt_let (y := (I0 o 10).toInt) rfl hg
  refine ⟨tIn (by omega) (by omega), ?_⟩
  replace hg := gt_let (y := (I0 (o + 5) ((I0 o 10) : Int32).toNatClampNeg).toInt) rfl hg
  have g_3 : (0 : Int) ≤ (I0 o 7).toInt ∧ (I0 o 7).toInt ≤ 5 := hR.at0 ra 7 (by decide)
  replace hg := gt_let (y := (I0 o 7).toInt) rfl hg
  have l_4 : (0 : Int32).toInt = 0 := rfl
  refine ⟨fun c_5 => ?_, fun c_5 => ?_⟩
  · have d_6 := iNe c_5
    replace hg := gt_neg (by first | exact d_6 | omega) hg
    unfold fTape_takePlaceUnlike_30
    replace hg := (eTape_takePlaceUnlike_30).symm.trans hg
    have l_7 : (2 : Int32).toInt = 2 := rfl
    refine y_Tape_refuseg hok hw ra (by first | omega | (intro h; omega) | exact Or.inl rfl | exact Or.inr rfl) hR (fun I_13 L_14 hR_15 fr_16 u_9 u_10 gn_11 ln_12 => ⟨I_13, L_14, rfl, rfl, ?_⟩)
    replace hl := hl.call ln_12 (fun c hc => by first | exact hc | exact False.elim hc | (dsimp only at hc ⊢; omega) | omega)
    replace hg := gt_b3 gn_11 hg
    clear gn_11
    have hf_17 : Fm (fun c => c = o) I0 I_13 := hf.call fr_16 (fun c hc => by first | exact hc | (dsimp only at hc ⊢; omega) | omega)
    have g_18 : (0 : Int) ≤ (I_13 o 7).toInt ∧ (I_13 o 7).toInt ≤ 5 := hR_15.at0 ra 7 (by decide)
    have g_19 : (0 : Int) ≤ (I_13 o 10).toInt ∧ (I_13 o 10).toInt ≤ 1600 := hR_15.at0 ra 10 (by decide)
    have k_20 : TokOK I_13 o := hq0.fr (fr_16 _ (by first | omega | (dsimp only; omega))) (fr_16 _ (by first | omega | (dsimp only; omega)))
    have l_21 : (-1 : Int32).toInt = -1 := rfl
    exact (hp _ _ _ hR_15 hf_17 (by first | omega | (intro h; omega) | exact Or.inl rfl | exact Or.inr rfl) (by first | omega | (intro h; omega) | exact Or.inl rfl | exact Or.inr rfl) (by first | omega | (intro h; omega) | exact Or.inl rfl | exact Or.inr rfl) hg.symm hl)
  · have d_22 := iEq c_5
    replace hg := gt_pos (by first | exact d_22 | omega) hg
    have g_23 : (0 : Int) ≤ (I0 o 10).toInt ∧ (I0 o 10).toInt ≤ 1600 := hR.at0 ra 10 (by decide)
    replace hg := gt_let (y := (I0 o 10).toInt) rfl hg
    refine ⟨tIn (by omega) (by omega), ?_⟩
    replace hg := gt_let (y := (I0 (o + 3) ((I0 o 10) : Int32).toNatClampNeg).toInt) rfl hg
    have l_24 : (3 : Int32).toInt = 3 := rfl
    refine ⟨fun c_25 => ?_, fun c_25 => ?_⟩
    · have d_26 := iEq c_25
      replace hg := gt_pos (by first | exact d_26 | omega) hg
      refine ⟨fun c_27 => ?_, fun c_27 => ?_⟩
      · have d_28 := iNe c_27
        replace hg := gt_neg (by first | exact d_28 | omega) hg
        refine y_Tape_stepg hok hw ra hR (fun I_33 L_34 hR_35 fr_36 u_30 gn_31 ln_32 => ⟨I_33, L_34, rfl, rfl, ?_⟩)
        replace hl := hl.call ln_32 (fun c hc => by first | exact hc | exact False.elim hc | (dsimp only at hc ⊢; omega) | omega)
        replace hg := gt_b3 gn_31 hg
        clear gn_31
        have hf_37 : Fm (fun c => c = o) I0 I_33 := hf.call fr_36 (fun c hc => by first | exact hc | (dsimp only at hc ⊢; omega) | omega)
        have g_38 : (0 : Int) ≤ (I_33 o 7).toInt ∧ (I_33 o 7).toInt ≤ 5 := hR_35.at0 ra 7 (by decide)
        have g_39 : (0 : Int) ≤ (I_33 o 10).toInt ∧ (I_33 o 10).toInt ≤ 1600 := hR_35.at0 ra 10 (by decide)
        have k_40 : TokOK I_33 o := hq0.fr (fr_36 _ (by first | omega | (dsimp only; omega))) (fr_36 _ (by first | omega | (dsimp only; omega)))
        exact (hp _ _ _ hR_35 hf_37 (by first | omega | (intro h; omega) | exact Or.inl rfl | exact Or.inr rfl) (by first | omega | (intro h; omega) | exact Or.inl rfl | exact Or.inr rfl) (by first | omega | (intro h; omega) | exact Or.inl rfl | exact Or.inr rfl) hg.symm hl)
      · have d_41 := iEq c_27
        replace hg := gt_pos (by first | exact d_41 | omega) hg
        have l_42 : (4 : Int32).toInt = 4 := rfl
        refine y_Tape_refuseg hok hw ra (by first | omega | (intro h; omega) | exact Or.inl rfl | exact Or.inr rfl) hR (fun I_48 L_49 hR_50 fr_51 u_44 u_45 gn_46 ln_47 => ⟨I_48, L_49, rfl, rfl, ?_⟩)
        replace hl := hl.call ln_47 (fun c hc => by first | exact hc | exact False.elim hc | (dsimp only at hc ⊢; omega) | omega)
        replace hg := gt_b3 gn_46 hg
        clear gn_46
        have hf_52 : Fm (fun c => c = o) I0 I_48 := hf.call fr_51 (fun c hc => by first | exact hc | (dsimp only at hc ⊢; omega) | omega)
        have g_53 : (0 : Int) ≤ (I_48 o 7).toInt ∧ (I_48 o 7).toInt ≤ 5 := hR_50.at0 ra 7 (by decide)
        have g_54 : (0 : Int) ≤ (I_48 o 10).toInt ∧ (I_48 o 10).toInt ≤ 1600 := hR_50.at0 ra 10 (by decide)
        have k_55 : TokOK I_48 o := hq0.fr (fr_51 _ (by first | omega | (dsimp only; omega))) (fr_51 _ (by first | omega | (dsimp only; omega)))
        have l_56 : (-1 : Int32).toInt = -1 := rfl
        exact (hp _ _ _ hR_50 hf_52 (by first | omega | (intro h; omega) | exact Or.inl rfl | exact Or.inr rfl) (by first | omega | (intro h; omega) | exact Or.inl rfl | exact Or.inr rfl) (by first | omega | (intro h; omega) | exact Or.inl rfl | exact Or.inr rfl) hg.symm hl)
    · have d_57 := iNe c_25
      replace hg := gt_neg (by first | exact d_57 | omega) hg
      unfold fTape_takePlaceUnlike_30
      replace hg := (eTape_takePlaceUnlike_30).symm.trans hg
      have l_58 : (2 : Int32).toInt = 2 := rfl
      refine y_Tape_refuseg hok hw ra (by first | omega | (intro h; omega) | exact Or.inl rfl | exact Or.inr rfl) hR (fun I_64 L_65 hR_66 fr_67 u_60 u_61 gn_62 ln_63 => ⟨I_64, L_65, rfl, rfl, ?_⟩)
      replace hl := hl.call ln_63 (fun c hc => by first | exact hc | exact False.elim hc | (dsimp only at hc ⊢; omega) | omega)
      replace hg := gt_b3 gn_62 hg
      clear gn_62
      have hf_68 : Fm (fun c => c = o) I0 I_64 := hf.call fr_67 (fun c hc => by first | exact hc | (dsimp only at hc ⊢; omega) | omega)
      have g_69 : (0 : Int) ≤ (I_64 o 7).toInt ∧ (I_64 o 7).toInt ≤ 5 := hR_66.at0 ra 7 (by decide)
      have g_70 : (0 : Int) ≤ (I_64 o 10).toInt ∧ (I_64 o 10).toInt ≤ 1600 := hR_66.at0 ra 10 (by decide)
      have k_71 : TokOK I_64 o := hq0.fr (fr_67 _ (by first | omega | (dsimp only; omega))) (fr_67 _ (by first | omega | (dsimp only; omega)))
      have l_72 : (-1 : Int32).toInt = -1 := rfl
      exact (hp _ _ _ hR_66 hf_68 (by first | omega | (intro h; omega) | exact Or.inl rfl | exact Or.inr rfl) (by first | omega | (intro h; omega) | exact Or.inl rfl | exact Or.inr rfl) (by first | omega | (intro h; omega) | exact Or.inl rfl | exact Or.inr rfl) hg.symm hl)
noncomputable def gTape_append_3 (k : Nat) (o : Nat) (J : gJ) (L : gL) (x1 : Int) (x2 : Int) : Int × gJ × gL := match k with
  | 0 => default
  | k + 1 => (if x2 < 0 then (0, J, L) else gLet (J o 6) (fun (v_1 : Int) => (if 1600 ≤ v_1 then (0, J, L) else gLet (J o 6) (fun (v_2 : Int) => gLet (wUshr x1 x2) (fun (v_3 : Int) => gLet (wAnd v_3 255) (fun (v_4 : Int) => gLet (q_u J (o + 1) (Int.toNat v_2) v_4) (fun (J_5 : gJ) => gLet (J_5 o 6) (fun (v_6 : Int) => gLet (v_6 + 1) (fun (v_7 : Int) => gLet (q_u J_5 o 6 v_7) (fun (J_8 : gJ) => gLet (x2 + (-8)) (fun (v_9 : Int) => (gTape_append_3 k o J_8 L x1 v_9))))))))))))
theorem eTape_append_3 {k : Nat} {o : Nat} {J : gJ} {L : gL} {x1 : Int} {x2 : Int} : gTape_append_3 (k + 1) o J L x1 x2 = (if x2 < 0 then (0, J, L) else gLet (J o 6) (fun (v_1 : Int) => (if 1600 ≤ v_1 then (0, J, L) else gLet (J o 6) (fun (v_2 : Int) => gLet (wUshr x1 x2) (fun (v_3 : Int) => gLet (wAnd v_3 255) (fun (v_4 : Int) => gLet (q_u J (o + 1) (Int.toNat v_2) v_4) (fun (J_5 : gJ) => gLet (J_5 o 6) (fun (v_6 : Int) => gLet (v_6 + 1) (fun (v_7 : Int) => gLet (q_u J_5 o 6 v_7) (fun (J_8 : gJ) => gLet (x2 + (-8)) (fun (v_9 : Int) => (gTape_append_3 k o J_8 L x1 v_9)))))))))))) := rfl
noncomputable def gTape_append_0 (o : Nat) (J : gJ) (L : gL) (x1 : Int) : Int × gJ × gL := (gTape_append_3 20000 o J L x1 24)
theorem eTape_append_0 {o : Nat} {J : gJ} {L : gL} {x1 : Int} : gTape_append_0 o J L x1 = (gTape_append_3 20000 o J L x1 24) := rfl
set_option maxHeartbeats 4000000 in
set_option maxRecDepth 20000 in
theorem yTape_append_3g {D : va_G} {cA : FieldType → ClassId} {b : Nat} {E : State → Prop} {R : qRg} {o n : Nat} {sh : Nat → qC} {Rf : Nat → Nat → Option Nat} {I0 : Nat → Nat → Int32} {L0 : Nat → Nat → Int64} {post : Option Value → qS → Prop} {p1 : Int32} (hok : q_ok (qGG D cA b E)) (hw : WfTape (qGG D cA b E) n sh Rf o) (ra : RATape R o) (hz3 : R.2 3 = true) (hp : ∀ (I' : Nat → Nat → Int32) (L' : Nat → Nat → Int64), RI R I' → Fm (fun c => c = o ∨ c = o + 1) I0 I' → (gTape_append_0 o (tI I0) L0 (p1).toInt = (0, tI I', L')) → (FmL (fun c => False) L0 L') → post none (n, sh, Rf, I', L')) : ∀ (k : Nat) {x1 : Int32} {x2 : Int32} {I : Nat → Nat → Int32} {L : Nat → Nat → Int64}, RI R I → Fm (fun c => c = o ∨ c = o + 1) I0 I → ((-8 : Int) ≤ x2.toInt ∧ x2.toInt ≤ 24) → (FmL (fun c => False) L0 L) → (gTape_append_3 k o (tI I) L (x1).toInt (x2).toInt = gTape_append_0 o (tI I0) L0 (p1).toInt) → (x2.toInt + 8).toNat < k → Ev (qGG D cA b E) mTape_append 0 (0, 0) 3 [(0, .ref o), (1, .int x1), (2, .int x2)] [] (n, sh, Rf, I, L) post := by
  intro k
  induction k with
  | zero =>
    intro x1 x2 I L hR hf hi0 hl hg hm
    exact absurd hm (Nat.not_lt_zero _)
  | succ k ih =>
    intro x1 x2 I L hR hf hi0 hl hg hm
    refine sTape_append_3 o n sh Rf I L post x1 x2 hok hw ?_
    unfold fTape_append_3
    replace hg := (eTape_append_3).symm.trans hg
    have l_1 : (0 : Int32).toInt = 0 := rfl
    refine ⟨fun c_2 => ?_, fun c_2 => ?_⟩
    · have d_3 := iLt c_2
      replace hg := gt_pos (by first | exact d_3 | omega) hg
      exact (hp _ _ hR hf  hg.symm hl)
    · have d_4 := iNlt c_2
      replace hg := gt_neg (by first | exact d_4 | omega) hg
      have g_5 : (0 : Int) ≤ (I o 6).toInt ∧ (I o 6).toInt ≤ 1600 := hR.at0 ra 6 (by decide)
      replace hg := gt_let (y := (I o 6).toInt) rfl hg
      have l_6 : (1600 : Int32).toInt = 1600 := rfl
      refine ⟨fun c_7 => ?_, fun c_7 => ?_⟩
      · have d_8 := iLe c_7
        replace hg := gt_pos (by first | exact d_8 | omega) hg
        exact (hp _ _ hR hf  hg.symm hl)
      · have d_9 := iNle c_7
        replace hg := gt_neg (by first | exact d_9 | omega) hg
        have g_10 : (0 : Int) ≤ (I o 6).toInt ∧ (I o 6).toInt ≤ 1600 := hR.at0 ra 6 (by decide)
        replace hg := gt_let (y := (I o 6).toInt) rfl hg
        replace hg := gt_let (y := (((x1).toUInt32 >>> ((x2 : Int32).toUInt32 &&& Int32.toUInt32 31)).toInt32 : Int32).toInt) (wUshr_eq (x1 : Int32) (x2 : Int32)) hg
        have l_11 : (255 : Int32).toInt = 255 := rfl
        replace hg := gt_let (y := ((((x1).toUInt32 >>> ((x2 : Int32).toUInt32 &&& Int32.toUInt32 31)).toInt32 &&& 255) : Int32).toInt) (wAnd_eq (((x1).toUInt32 >>> ((x2 : Int32).toUInt32 &&& Int32.toUInt32 31)).toInt32 : Int32) (255 : Int32)) hg
        refine ⟨tIn (by omega) (by omega), fun I_12 e_13 => ?_⟩
        replace hg := gt_let (y := tI I_12) (tI_q e_13) hg
        have hR_14 : RI R I_12 := hR.up ra 1 (by decide) (Or.inl rfl) e_13 (i_lo _) (i_hi _)
        have hf_15 : Fm (fun c => c = o ∨ c = o + 1) I0 I_12 := hf.set (by first | rfl | omega | (dsimp only; omega)) e_13
        have t_16 : (I_12 o 6).toInt = (I o 6).toInt := by rw [← e_13, q_u_ne (by omega)]
        have g_17 : (0 : Int) ≤ (I_12 o 6).toInt ∧ (I_12 o 6).toInt ≤ 1600 := hR_14.at0 ra 6 (by decide)
        replace hg := gt_let (y := (I_12 o 6).toInt) rfl hg
        have l_18 : (1 : Int32).toInt = 1 := rfl
        have a_19 : ((I_12 o 6) + 1).toInt = (I_12 o 6).toInt + (1 : Int32).toInt := tAdd (by omega) (by omega)
        replace hg := gt_let (y := (((I_12 o 6) + 1) : Int32).toInt) (by omega) hg
        refine fun I_20 e_21 => ?_
        replace hg := gt_let (y := tI I_20) (tI_q e_21) hg
        have hR_22 : RI R I_20 := hR_14.up0 (k := 6) ra (by decide) (Or.inr hz3) e_21 (show (0 : Int) ≤ ((I_12 o 6) + 1).toInt by omega) (show ((I_12 o 6) + 1).toInt ≤ (1600 : Int) by omega)
        have hf_23 : Fm (fun c => c = o ∨ c = o + 1) I0 I_20 := hf_15.set (by first | rfl | omega | (dsimp only; omega)) e_21
        have t_24 : (I_20 o 6).toInt = ((I_12 o 6) + 1).toInt := by rw [← e_21, q_u_at]
        have a_26 : (x2 + Int32.ofInt (-8)).toInt = x2.toInt + (-8) := tIc (by omega) (by omega) (by decide) (by decide)
        generalize ez_25 : (x2 + Int32.ofInt (-8)) = z_25 at a_26 ⊢
        replace hg := gt_let (y := z_25.toInt) (by omega) hg
        exact ih hR_22 hf_23 (by first | omega | (intro h; omega) | exact Or.inl rfl | exact Or.inr rfl) hl hg (by omega)
set_option maxHeartbeats 4000000 in
set_option maxRecDepth 20000 in
theorem y_Tape_appendg {D : va_G} {cA : FieldType → ClassId} {b : Nat} {E : State → Prop} {R : qRg} {o n : Nat} {sh : Nat → qC} {Rf : Nat → Nat → Option Nat} {I0 : Nat → Nat → Int32} {L0 : Nat → Nat → Int64} {post : Option Value → qS → Prop} {p1 : Int32} (hok : q_ok (qGG D cA b E)) (hw : WfTape (qGG D cA b E) n sh Rf o) (ra : RATape R o) (hz3 : R.2 3 = true) (hR : RI R I0) (hp : ∀ (I' : Nat → Nat → Int32) (L' : Nat → Nat → Int64), RI R I' → Fm (fun c => c = o ∨ c = o + 1) I0 I' → (gTape_append_0 o (tI I0) L0 (p1).toInt = (0, tI I', L')) → (FmL (fun c => False) L0 L') → post none (n, sh, Rf, I', L')) : Ev (qGG D cA b E) mTape_append 0 (0, 0) 0 (lv_args 0 [.ref o, .int p1]) [] (n, sh, Rf, I0, L0) post := by
  have hf : Fm (fun c => c = o ∨ c = o + 1) I0 I0 := Fm.rf
  refine sTape_append_0 o n sh Rf I0 L0 post p1 hok hw ?_
  unfold fTape_append_0
  have hl : FmL (fun c => False) L0 L0 := FmL.rf
  have hg : gTape_append_0 o (tI I0) L0 (p1).toInt = gTape_append_0 o (tI I0) L0 (p1).toInt := rfl
  replace hg := (eTape_append_0).symm.trans hg
  have l_27 : (24 : Int32).toInt = 24 := rfl
  exact yTape_append_3g (I0 := I0) (L0 := L0) (p1 := p1) hok hw ra hz3 hp  20000 hR hf (by first | omega | (intro h; omega) | exact Or.inl rfl | exact Or.inr rfl) hl hg (by omega)
