/-! Safety of Tape: by program (spec.py). -/
set_option maxHeartbeats 4000000 in
set_option maxRecDepth 20000 in
theorem y_Tape_byteAt {D : va_G} {cA : FieldType → ClassId} {b : Nat} {E : State → Prop} {R : qRg} {o n : Nat} {sh : Nat → qC} {Rf : Nat → Nat → Option Nat} {I0 : Nat → Nat → Int32} {L0 : Nat → Nat → Int64} {post : Option Value → qS → Prop} {p1 : Int32} (hok : q_ok (qGG D cA b E)) (hw : WfTape (qGG D cA b E) n sh Rf o) (ra : RATape R o) (hR : RI R I0) (hp : ∀ (r : Int32) , (r = byF (I0 (o + 1)) (I0 o 6) p1) → post (some (.int r)) (n, sh, Rf, I0, L0)) : Ev (qGG D cA b E) mTape_byteAt 0 (0, 0) 0 (lv_args 0 [.ref o, .int p1]) [] (n, sh, Rf, I0, L0) post := by
  refine sTape_byteAt_0 o n sh Rf I0 L0 post p1 hok hw ?_
  unfold fTape_byteAt_0
  have l_1 : (0 : Int32).toInt = 0 := rfl
  refine ⟨fun c_2 => ?_, fun c_2 => ?_⟩
  · have d_3 := iLt c_2
    unfold fTape_byteAt_19
    exact (hp _ (by simp [byF, *]))
  · have d_4 := iNlt c_2
    have g_5 : (0 : Int) ≤ (I0 o 6).toInt ∧ (I0 o 6).toInt ≤ 1600 := hR.at0 ra 6 (by decide)
    refine ⟨fun c_6 => ?_, fun c_6 => ?_⟩
    · have d_7 := iLe c_6
      unfold fTape_byteAt_19
      exact (hp _ (by simp [byF, *]))
    · have d_8 := iNle c_6
      have l_9 : (1600 : Int32).toInt = 1600 := rfl
      refine ⟨fun c_10 => ?_, fun c_10 => ?_⟩
      · have d_11 := iLt c_10
        refine ⟨tIn (by omega) (by omega), ?_⟩
        exact (hp _ (by simp [byF, *]))
      · have d_12 := iNlt c_10
        exfalso; omega
set_option maxHeartbeats 4000000 in
set_option maxRecDepth 20000 in
theorem y_Tape_isLetter {D : va_G} {cA : FieldType → ClassId} {b : Nat} {E : State → Prop} {R : qRg} {n : Nat} {sh : Nat → qC} {Rf : Nat → Nat → Option Nat} {I0 : Nat → Nat → Int32} {L0 : Nat → Nat → Int64} {post : Option Value → qS → Prop} {p0 : Int32} (hok : q_ok (qGG D cA b E)) (hR : RI R I0) (hp : ∀ (r : Int32) , (Bz r) → (r = ltF p0) → post (some (.int r)) (n, sh, Rf, I0, L0)) : Ev (qGG D cA b E) mTape_isLetter 0 (0, 0) 0 (lv_args 0 [.int p0]) [] (n, sh, Rf, I0, L0) post := by
  refine sTape_isLetter_0 n sh Rf I0 L0 post p0 hok  ?_
  unfold fTape_isLetter_0
  have l_1 : (97 : Int32).toInt = 97 := rfl
  refine ⟨fun c_2 => ?_, fun c_2 => ?_⟩
  · have d_3 := iLt c_2
    have l_4 : (0 : Int32).toInt = 0 := rfl
    exact (hp _ (Or.inl rfl) (by simp [ltF, *]))
  · have d_5 := iNlt c_2
    have l_6 : (122 : Int32).toInt = 122 := rfl
    refine ⟨fun c_7 => ?_, fun c_7 => ?_⟩
    · have d_8 := iLt c_7
      have l_9 : (0 : Int32).toInt = 0 := rfl
      exact (hp _ (Or.inl rfl) (by simp [ltF, *]))
    · have d_10 := iNlt c_7
      have l_11 : (1 : Int32).toInt = 1 := rfl
      exact (hp _ (Or.inr rfl) (by simp [ltF, *]))
set_option maxHeartbeats 4000000 in
set_option maxRecDepth 20000 in
theorem y_Tape_isDigit {D : va_G} {cA : FieldType → ClassId} {b : Nat} {E : State → Prop} {R : qRg} {n : Nat} {sh : Nat → qC} {Rf : Nat → Nat → Option Nat} {I0 : Nat → Nat → Int32} {L0 : Nat → Nat → Int64} {post : Option Value → qS → Prop} {p0 : Int32} (hok : q_ok (qGG D cA b E)) (hR : RI R I0) (hp : ∀ (r : Int32) , (Bz r) → (r = dgF p0) → post (some (.int r)) (n, sh, Rf, I0, L0)) : Ev (qGG D cA b E) mTape_isDigit 0 (0, 0) 0 (lv_args 0 [.int p0]) [] (n, sh, Rf, I0, L0) post := by
  refine sTape_isDigit_0 n sh Rf I0 L0 post p0 hok  ?_
  unfold fTape_isDigit_0
  have l_1 : (48 : Int32).toInt = 48 := rfl
  refine ⟨fun c_2 => ?_, fun c_2 => ?_⟩
  · have d_3 := iLt c_2
    have l_4 : (0 : Int32).toInt = 0 := rfl
    exact (hp _ (Or.inl rfl) (by simp [dgF, *]))
  · have d_5 := iNlt c_2
    have l_6 : (57 : Int32).toInt = 57 := rfl
    refine ⟨fun c_7 => ?_, fun c_7 => ?_⟩
    · have d_8 := iLt c_7
      have l_9 : (0 : Int32).toInt = 0 := rfl
      exact (hp _ (Or.inl rfl) (by simp [dgF, *]))
    · have d_10 := iNlt c_7
      have l_11 : (1 : Int32).toInt = 1 := rfl
      exact (hp _ (Or.inr rfl) (by simp [dgF, *]))
set_option maxHeartbeats 4000000 in
set_option maxRecDepth 20000 in
theorem y_Tape_kind {D : va_G} {cA : FieldType → ClassId} {b : Nat} {E : State → Prop} {R : qRg} {o n : Nat} {sh : Nat → qC} {Rf : Nat → Nat → Option Nat} {I0 : Nat → Nat → Int32} {L0 : Nat → Nat → Int64} {post : Option Value → qS → Prop} (hok : q_ok (qGG D cA b E)) (hw : WfTape (qGG D cA b E) n sh Rf o) (ra : RATape R o) (hR : RI R I0) (hp : ∀ (r : Int32) , (r = I0 (o + 3) (I0 o 10).toNatClampNeg) → post (some (.int r)) (n, sh, Rf, I0, L0)) : Ev (qGG D cA b E) mTape_kind 0 (0, 0) 0 (lv_args 0 [.ref o]) [] (n, sh, Rf, I0, L0) post := by
  refine sTape_kind_0 o n sh Rf I0 L0 post  hok hw ?_
  unfold fTape_kind_0
  have g_1 : (0 : Int) ≤ (I0 o 10).toInt ∧ (I0 o 10).toInt ≤ 1600 := hR.at0 ra 10 (by decide)
  refine ⟨tIn (by omega) (by omega), ?_⟩
  exact (hp _ (by rfl))
set_option maxHeartbeats 4000000 in
set_option maxRecDepth 20000 in
theorem y_Tape_value {D : va_G} {cA : FieldType → ClassId} {b : Nat} {E : State → Prop} {R : qRg} {o n : Nat} {sh : Nat → qC} {Rf : Nat → Nat → Option Nat} {I0 : Nat → Nat → Int32} {L0 : Nat → Nat → Int64} {post : Option Value → qS → Prop} (hok : q_ok (qGG D cA b E)) (hw : WfTape (qGG D cA b E) n sh Rf o) (ra : RATape R o) (hR : RI R I0) (hp : ∀ (r : Int32) , (r = I0 (o + 5) (I0 o 10).toNatClampNeg) → post (some (.int r)) (n, sh, Rf, I0, L0)) : Ev (qGG D cA b E) mTape_value 0 (0, 0) 0 (lv_args 0 [.ref o]) [] (n, sh, Rf, I0, L0) post := by
  refine sTape_value_0 o n sh Rf I0 L0 post  hok hw ?_
  unfold fTape_value_0
  have g_1 : (0 : Int) ≤ (I0 o 10).toInt ∧ (I0 o 10).toInt ≤ 1600 := hR.at0 ra 10 (by decide)
  refine ⟨tIn (by omega) (by omega), ?_⟩
  exact (hp _ (by rfl))
set_option maxHeartbeats 4000000 in
set_option maxRecDepth 20000 in
theorem y_Tape_name {D : va_G} {cA : FieldType → ClassId} {b : Nat} {E : State → Prop} {R : qRg} {o n : Nat} {sh : Nat → qC} {Rf : Nat → Nat → Option Nat} {I0 : Nat → Nat → Int32} {L0 : Nat → Nat → Int64} {post : Option Value → qS → Prop} (hok : q_ok (qGG D cA b E)) (hw : WfTape (qGG D cA b E) n sh Rf o) (ra : RATape R o) (hR : RI R I0) (hp : ∀ (r : Int64) , post (some (.long r)) (n, sh, Rf, I0, L0)) : Ev (qGG D cA b E) mTape_name 0 (0, 0) 0 (lv_args 0 [.ref o]) [] (n, sh, Rf, I0, L0) post := by
  refine sTape_name_0 o n sh Rf I0 L0 post  hok hw ?_
  unfold fTape_name_0
  have g_1 : (0 : Int) ≤ (I0 o 10).toInt ∧ (I0 o 10).toInt ≤ 1600 := hR.at0 ra 10 (by decide)
  refine ⟨tIn (by omega) (by omega), ?_⟩
  exact (hp _ )
set_option maxHeartbeats 4000000 in
set_option maxRecDepth 20000 in
theorem y_Tape_isWord {D : va_G} {cA : FieldType → ClassId} {b : Nat} {E : State → Prop} {R : qRg} {o n : Nat} {sh : Nat → qC} {Rf : Nat → Nat → Option Nat} {I0 : Nat → Nat → Int32} {L0 : Nat → Nat → Int64} {post : Option Value → qS → Prop} {p1 : Int32} (hok : q_ok (qGG D cA b E)) (hw : WfTape (qGG D cA b E) n sh Rf o) (ra : RATape R o) (hR : RI R I0) (hp : ∀ (r : Int32) , (Bz r) → post (some (.int r)) (n, sh, Rf, I0, L0)) : Ev (qGG D cA b E) mTape_isWord 0 (0, 0) 0 (lv_args 0 [.ref o, .int p1]) [] (n, sh, Rf, I0, L0) post := by
  refine sTape_isWord_0 o n sh Rf I0 L0 post p1 hok hw ?_
  unfold fTape_isWord_0
  have g_1 : (0 : Int) ≤ (I0 o 7).toInt ∧ (I0 o 7).toInt ≤ 5 := hR.at0 ra 7 (by decide)
  have l_2 : (0 : Int32).toInt = 0 := rfl
  refine ⟨fun c_3 => ?_, fun c_3 => ?_⟩
  · have d_4 := iNe c_3
    exact (hp _ (Or.inl rfl))
  · have d_5 := iEq c_3
    have g_6 : (0 : Int) ≤ (I0 o 10).toInt ∧ (I0 o 10).toInt ≤ 1600 := hR.at0 ra 10 (by decide)
    refine ⟨tIn (by omega) (by omega), ?_⟩
    have l_7 : (1 : Int32).toInt = 1 := rfl
    refine ⟨fun c_8 => ?_, fun c_8 => ?_⟩
    · have d_9 := iNe c_8
      exact (hp _ (Or.inl rfl))
    · have d_10 := iEq c_8
      have g_11 : (0 : Int) ≤ (I0 o 10).toInt ∧ (I0 o 10).toInt ≤ 1600 := hR.at0 ra 10 (by decide)
      refine ⟨tIn (by omega) (by omega), ?_⟩
      refine ⟨fun c_12 => ?_, fun c_12 => ?_⟩
      · have d_13 := iNe c_12
        exact (hp _ (Or.inl rfl))
      · have d_14 := iEq c_12
        exact (hp _ (Or.inr rfl))
set_option maxHeartbeats 4000000 in
set_option maxRecDepth 20000 in
theorem y_Tape_isSign {D : va_G} {cA : FieldType → ClassId} {b : Nat} {E : State → Prop} {R : qRg} {o n : Nat} {sh : Nat → qC} {Rf : Nat → Nat → Option Nat} {I0 : Nat → Nat → Int32} {L0 : Nat → Nat → Int64} {post : Option Value → qS → Prop} {p1 : Int32} (hok : q_ok (qGG D cA b E)) (hw : WfTape (qGG D cA b E) n sh Rf o) (ra : RATape R o) (hR : RI R I0) (hp : ∀ (r : Int32) , (Bz r) → (Im (r.toInt ≠ 0) ((I0 (o + 3) (I0 o 10).toNatClampNeg).toInt = 4 ∧ (I0 (o + 5) (I0 o 10).toNatClampNeg).toInt = p1.toInt)) → post (some (.int r)) (n, sh, Rf, I0, L0)) : Ev (qGG D cA b E) mTape_isSign 0 (0, 0) 0 (lv_args 0 [.ref o, .int p1]) [] (n, sh, Rf, I0, L0) post := by
  refine sTape_isSign_0 o n sh Rf I0 L0 post p1 hok hw ?_
  unfold fTape_isSign_0
  have g_1 : (0 : Int) ≤ (I0 o 7).toInt ∧ (I0 o 7).toInt ≤ 5 := hR.at0 ra 7 (by decide)
  have l_2 : (0 : Int32).toInt = 0 := rfl
  refine ⟨fun c_3 => ?_, fun c_3 => ?_⟩
  · have d_4 := iNe c_3
    exact (hp _ (Or.inl rfl) (by intro _; omega))
  · have d_5 := iEq c_3
    have g_6 : (0 : Int) ≤ (I0 o 10).toInt ∧ (I0 o 10).toInt ≤ 1600 := hR.at0 ra 10 (by decide)
    refine ⟨tIn (by omega) (by omega), ?_⟩
    have l_7 : (4 : Int32).toInt = 4 := rfl
    refine ⟨fun c_8 => ?_, fun c_8 => ?_⟩
    · have d_9 := iNe c_8
      exact (hp _ (Or.inl rfl) (by intro _; omega))
    · have d_10 := iEq c_8
      have g_11 : (0 : Int) ≤ (I0 o 10).toInt ∧ (I0 o 10).toInt ≤ 1600 := hR.at0 ra 10 (by decide)
      refine ⟨tIn (by omega) (by omega), ?_⟩
      refine ⟨fun c_12 => ?_, fun c_12 => ?_⟩
      · have d_13 := iNe c_12
        exact (hp _ (Or.inl rfl) (by intro _; omega))
      · have d_14 := iEq c_12
        have l_15 : (1 : Int32).toInt = 1 := rfl
        exact (hp _ (Or.inr rfl) (by intro _; omega))
set_option maxHeartbeats 4000000 in
set_option maxRecDepth 20000 in
theorem y_Tape_isNumber {D : va_G} {cA : FieldType → ClassId} {b : Nat} {E : State → Prop} {R : qRg} {o n : Nat} {sh : Nat → qC} {Rf : Nat → Nat → Option Nat} {I0 : Nat → Nat → Int32} {L0 : Nat → Nat → Int64} {post : Option Value → qS → Prop} (hok : q_ok (qGG D cA b E)) (hw : WfTape (qGG D cA b E) n sh Rf o) (ra : RATape R o) (hR : RI R I0) (hp : ∀ (r : Int32) , (Bz r) → (Im (r.toInt ≠ 0) ((I0 (o + 3) (I0 o 10).toNatClampNeg).toInt = 2)) → post (some (.int r)) (n, sh, Rf, I0, L0)) : Ev (qGG D cA b E) mTape_isNumber 0 (0, 0) 0 (lv_args 0 [.ref o]) [] (n, sh, Rf, I0, L0) post := by
  refine sTape_isNumber_0 o n sh Rf I0 L0 post  hok hw ?_
  unfold fTape_isNumber_0
  have g_1 : (0 : Int) ≤ (I0 o 7).toInt ∧ (I0 o 7).toInt ≤ 5 := hR.at0 ra 7 (by decide)
  have l_2 : (0 : Int32).toInt = 0 := rfl
  refine ⟨fun c_3 => ?_, fun c_3 => ?_⟩
  · have d_4 := iNe c_3
    exact (hp _ (Or.inl rfl) (by intro _; omega))
  · have d_5 := iEq c_3
    have g_6 : (0 : Int) ≤ (I0 o 10).toInt ∧ (I0 o 10).toInt ≤ 1600 := hR.at0 ra 10 (by decide)
    refine ⟨tIn (by omega) (by omega), ?_⟩
    have l_7 : (2 : Int32).toInt = 2 := rfl
    refine ⟨fun c_8 => ?_, fun c_8 => ?_⟩
    · have d_9 := iNe c_8
      exact (hp _ (Or.inl rfl) (by intro _; omega))
    · have d_10 := iEq c_8
      have l_11 : (1 : Int32).toInt = 1 := rfl
      exact (hp _ (Or.inr rfl) (by intro _; omega))
set_option maxHeartbeats 4000000 in
set_option maxRecDepth 20000 in
theorem y_Tape_atEnd {D : va_G} {cA : FieldType → ClassId} {b : Nat} {E : State → Prop} {R : qRg} {o n : Nat} {sh : Nat → qC} {Rf : Nat → Nat → Option Nat} {I0 : Nat → Nat → Int32} {L0 : Nat → Nat → Int64} {post : Option Value → qS → Prop} (hok : q_ok (qGG D cA b E)) (hw : WfTape (qGG D cA b E) n sh Rf o) (ra : RATape R o) (hR : RI R I0) (hp : ∀ (r : Int32) , (Bz r) → post (some (.int r)) (n, sh, Rf, I0, L0)) : Ev (qGG D cA b E) mTape_atEnd 0 (0, 0) 0 (lv_args 0 [.ref o]) [] (n, sh, Rf, I0, L0) post := by
  refine sTape_atEnd_0 o n sh Rf I0 L0 post  hok hw ?_
  unfold fTape_atEnd_0
  have g_1 : (0 : Int) ≤ (I0 o 10).toInt ∧ (I0 o 10).toInt ≤ 1600 := hR.at0 ra 10 (by decide)
  refine ⟨tIn (by omega) (by omega), ?_⟩
  have l_2 : (0 : Int32).toInt = 0 := rfl
  refine ⟨fun c_3 => ?_, fun c_3 => ?_⟩
  · have d_4 := iNe c_3
    exact (hp _ (Or.inl rfl))
  · have d_5 := iEq c_3
    have l_6 : (1 : Int32).toInt = 1 := rfl
    exact (hp _ (Or.inr rfl))
set_option maxHeartbeats 4000000 in
set_option maxRecDepth 20000 in
theorem y_Tape_step {D : va_G} {cA : FieldType → ClassId} {b : Nat} {E : State → Prop} {R : qRg} {o n : Nat} {sh : Nat → qC} {Rf : Nat → Nat → Option Nat} {I0 : Nat → Nat → Int32} {L0 : Nat → Nat → Int64} {post : Option Value → qS → Prop} (hok : q_ok (qGG D cA b E)) (hw : WfTape (qGG D cA b E) n sh Rf o) (ra : RATape R o) (hR : RI R I0) (hp : ∀ (I' : Nat → Nat → Int32) (L' : Nat → Nat → Int64), RI R I' → Fm (fun c => c = o) I0 I' → ((I0 o 7).toInt ≤ (I' o 7).toInt) → post none (n, sh, Rf, I', L')) : Ev (qGG D cA b E) mTape_step 0 (0, 0) 0 (lv_args 0 [.ref o]) [] (n, sh, Rf, I0, L0) post := by
  have hf : Fm (fun c => c = o) I0 I0 := Fm.rf
  have g_1 : (0 : Int) ≤ (I0 o 7).toInt ∧ (I0 o 7).toInt ≤ 5 := hR.at0 ra 7 (by decide)
  refine sTape_step_0 o n sh Rf I0 L0 post  hok hw ?_
  unfold fTape_step_0
  have g_2 : (0 : Int) ≤ (I0 o 10).toInt ∧ (I0 o 10).toInt ≤ 1600 := hR.at0 ra 10 (by decide)
  refine ⟨tIn (by omega) (by omega), ?_⟩
  have l_3 : (0 : Int32).toInt = 0 := rfl
  refine ⟨fun c_4 => ?_, fun c_4 => ?_⟩
  · have d_5 := iEq c_4
    exact (hp _ _ hR hf (by first | omega | (intro h; omega) | exact Or.inl rfl | exact Or.inr rfl))
  · have d_6 := iNe c_4
    have g_7 : (0 : Int) ≤ (I0 o 10).toInt ∧ (I0 o 10).toInt ≤ 1600 := hR.at0 ra 10 (by decide)
    refine ⟨tIn (by omega) (by omega), ?_⟩
    have l_8 : (5 : Int32).toInt = 5 := rfl
    refine ⟨fun c_9 => ?_, fun c_9 => ?_⟩
    · have d_10 := iEq c_9
      exact (hp _ _ hR hf (by first | omega | (intro h; omega) | exact Or.inl rfl | exact Or.inr rfl))
    · have d_11 := iNe c_9
      have g_12 : (0 : Int) ≤ (I0 o 10).toInt ∧ (I0 o 10).toInt ≤ 1600 := hR.at0 ra 10 (by decide)
      have l_13 : (1600 : Int32).toInt = 1600 := rfl
      refine ⟨fun c_14 => ?_, fun c_14 => ?_⟩
      · have d_15 := iLe c_14
        exact (hp _ _ hR hf (by first | omega | (intro h; omega) | exact Or.inl rfl | exact Or.inr rfl))
      · have d_16 := iNle c_14
        have g_17 : (0 : Int) ≤ (I0 o 10).toInt ∧ (I0 o 10).toInt ≤ 1600 := hR.at0 ra 10 (by decide)
        have l_18 : (1 : Int32).toInt = 1 := rfl
        have a_19 : ((I0 o 10) + 1).toInt = (I0 o 10).toInt + (1 : Int32).toInt := tAdd (by omega) (by omega)
        refine fun I_20 e_21 => ?_
        have hR_22 : RI R I_20 := hR.up0 (k := 10) ra (by decide) (Or.inl rfl) e_21 (show (0 : Int) ≤ ((I0 o 10) + 1).toInt by omega) (show ((I0 o 10) + 1).toInt ≤ (1600 : Int) by omega)
        have hf_23 : Fm (fun c => c = o) I0 I_20 := hf.set (by first | rfl | omega | (dsimp only; omega)) e_21
        have t_24 : (I_20 o 7).toInt = (I0 o 7).toInt := by rw [← e_21, q_u_k (by decide)]
        have t_25 : (I_20 o 10).toInt = ((I0 o 10) + 1).toInt := by rw [← e_21, q_u_at]
        exact (hp _ _ hR_22 hf_23 (by first | omega | (intro h; omega) | exact Or.inl rfl | exact Or.inr rfl))
set_option maxHeartbeats 4000000 in
set_option maxRecDepth 20000 in
theorem y_Tape_refuse {D : va_G} {cA : FieldType → ClassId} {b : Nat} {E : State → Prop} {R : qRg} {o n : Nat} {sh : Nat → qC} {Rf : Nat → Nat → Option Nat} {I0 : Nat → Nat → Int32} {L0 : Nat → Nat → Int64} {post : Option Value → qS → Prop} {p1 : Int32} (hok : q_ok (qGG D cA b E)) (hw : WfTape (qGG D cA b E) n sh Rf o) (ra : RATape R o) (hq0 : (1 : Int) ≤ p1.toInt ∧ p1.toInt ≤ 5) (hR : RI R I0) (hp : ∀ (I' : Nat → Nat → Int32) (L' : Nat → Nat → Int64), RI R I' → Fm (fun c => c = o) I0 I' → ((I0 o 7).toInt ≤ (I' o 7).toInt) → (1 ≤ (I' o 7).toInt) → post none (n, sh, Rf, I', L')) : Ev (qGG D cA b E) mTape_refuse 0 (0, 0) 0 (lv_args 0 [.ref o, .int p1]) [] (n, sh, Rf, I0, L0) post := by
  have hf : Fm (fun c => c = o) I0 I0 := Fm.rf
  have g_1 : (0 : Int) ≤ (I0 o 7).toInt ∧ (I0 o 7).toInt ≤ 5 := hR.at0 ra 7 (by decide)
  refine sTape_refuse_0 o n sh Rf I0 L0 post p1 hok hw ?_
  unfold fTape_refuse_0
  have g_2 : (0 : Int) ≤ (I0 o 7).toInt ∧ (I0 o 7).toInt ≤ 5 := hR.at0 ra 7 (by decide)
  have l_3 : (0 : Int32).toInt = 0 := rfl
  refine ⟨fun c_4 => ?_, fun c_4 => ?_⟩
  · have d_5 := iNe c_4
    exact (hp _ _ hR hf (by first | omega | (intro h; omega) | exact Or.inl rfl | exact Or.inr rfl) (by first | omega | (intro h; omega) | exact Or.inl rfl | exact Or.inr rfl))
  · have d_6 := iEq c_4
    have g_7 : (0 : Int) ≤ (I0 o 10).toInt ∧ (I0 o 10).toInt ≤ 1600 := hR.at0 ra 10 (by decide)
    refine ⟨tIn (by omega) (by omega), ?_⟩
    have l_8 : (5 : Int32).toInt = 5 := rfl
    refine ⟨fun c_9 => ?_, fun c_9 => ?_⟩
    · have d_10 := iNe c_9
      unfold fTape_refuse_26
      refine fun I_11 e_12 => ?_
      have hR_13 : RI R I_11 := hR.up0 (k := 7) ra (by decide) (Or.inl rfl) e_12 (show (0 : Int) ≤ p1.toInt by omega) (show p1.toInt ≤ (5 : Int) by omega)
      have hf_14 : Fm (fun c => c = o) I0 I_11 := hf.set (by first | rfl | omega | (dsimp only; omega)) e_12
      have t_15 : (I_11 o 7).toInt = p1.toInt := by rw [← e_12, q_u_at]
      have t_16 : (I_11 o 10).toInt = (I0 o 10).toInt := by rw [← e_12, q_u_k (by decide)]
      have g_17 : (0 : Int) ≤ (I_11 o 10).toInt ∧ (I_11 o 10).toInt ≤ 1600 := hR_13.at0 ra 10 (by decide)
      refine ⟨tIn (by omega) (by omega), ?_⟩
      refine fun I_18 e_19 => ?_
      have hR_20 : RI R I_18 := hR_13.up0 (k := 8) ra (by decide) (Or.inl rfl) e_19 (i_lo _) (i_hi _)
      have hf_21 : Fm (fun c => c = o) I0 I_18 := hf_14.set (by first | rfl | omega | (dsimp only; omega)) e_19
      have t_22 : (I_18 o 7).toInt = (I_11 o 7).toInt := by rw [← e_19, q_u_k (by decide)]
      have t_23 : (I_18 o 10).toInt = (I_11 o 10).toInt := by rw [← e_19, q_u_k (by decide)]
      exact (hp _ _ hR_20 hf_21 (by first | omega | (intro h; omega) | exact Or.inl rfl | exact Or.inr rfl) (by first | omega | (intro h; omega) | exact Or.inl rfl | exact Or.inr rfl))
    · have d_24 := iEq c_9
      unfold fTape_refuse_26
      have l_25 : (1 : Int32).toInt = 1 := rfl
      refine fun I_26 e_27 => ?_
      have hR_28 : RI R I_26 := hR.up0 (k := 7) ra (by decide) (Or.inl rfl) e_27 (show (0 : Int) ≤ (1 : Int32).toInt by omega) (show (1 : Int32).toInt ≤ (5 : Int) by omega)
      have hf_29 : Fm (fun c => c = o) I0 I_26 := hf.set (by first | rfl | omega | (dsimp only; omega)) e_27
      have t_30 : (I_26 o 7).toInt = (1 : Int32).toInt := by rw [← e_27, q_u_at]
      have t_31 : (I_26 o 10).toInt = (I0 o 10).toInt := by rw [← e_27, q_u_k (by decide)]
      have g_32 : (0 : Int) ≤ (I_26 o 10).toInt ∧ (I_26 o 10).toInt ≤ 1600 := hR_28.at0 ra 10 (by decide)
      refine ⟨tIn (by omega) (by omega), ?_⟩
      refine fun I_33 e_34 => ?_
      have hR_35 : RI R I_33 := hR_28.up0 (k := 8) ra (by decide) (Or.inl rfl) e_34 (i_lo _) (i_hi _)
      have hf_36 : Fm (fun c => c = o) I0 I_33 := hf_29.set (by first | rfl | omega | (dsimp only; omega)) e_34
      have t_37 : (I_33 o 7).toInt = (I_26 o 7).toInt := by rw [← e_34, q_u_k (by decide)]
      have t_38 : (I_33 o 10).toInt = (I_26 o 10).toInt := by rw [← e_34, q_u_k (by decide)]
      exact (hp _ _ hR_35 hf_36 (by first | omega | (intro h; omega) | exact Or.inl rfl | exact Or.inr rfl) (by first | omega | (intro h; omega) | exact Or.inl rfl | exact Or.inr rfl))
set_option maxHeartbeats 4000000 in
set_option maxRecDepth 20000 in
theorem y_Tape_passIf {D : va_G} {cA : FieldType → ClassId} {b : Nat} {E : State → Prop} {R : qRg} {o n : Nat} {sh : Nat → qC} {Rf : Nat → Nat → Option Nat} {I0 : Nat → Nat → Int32} {L0 : Nat → Nat → Int64} {post : Option Value → qS → Prop} {p1 : Int32} (hok : q_ok (qGG D cA b E)) (hw : WfTape (qGG D cA b E) n sh Rf o) (ra : RATape R o) (hR : RI R I0) (hp : ∀ (I' : Nat → Nat → Int32) (L' : Nat → Nat → Int64), RI R I' → Fm (fun c => c = o) I0 I' → ((I0 o 7).toInt ≤ (I' o 7).toInt) → post none (n, sh, Rf, I', L')) : Ev (qGG D cA b E) mTape_passIf 1 (0, 0) 0 (lv_args 0 [.ref o, .int p1]) [] (n, sh, Rf, I0, L0) post := by
  have hf : Fm (fun c => c = o) I0 I0 := Fm.rf
  have g_1 : (0 : Int) ≤ (I0 o 7).toInt ∧ (I0 o 7).toInt ≤ 5 := hR.at0 ra 7 (by decide)
  refine sTape_passIf_0 o n sh Rf I0 L0 post p1 hok hw ?_
  unfold fTape_passIf_0
  have l_2 : (0 : Int32).toInt = 0 := rfl
  refine ⟨fun c_3 => ?_, fun c_3 => ?_⟩
  · have d_4 := iEq c_3
    have l_5 : (2 : Int32).toInt = 2 := rfl
    refine y_Tape_refuse hok hw ra (by first | omega | (intro h; omega) | exact Or.inl rfl | exact Or.inr rfl) hR (fun I_9 L_10 hR_11 fr_12 u_7 u_8 => ⟨I_9, L_10, rfl, rfl, ?_⟩)
    have hf_13 : Fm (fun c => c = o) I0 I_9 := hf.call fr_12 (fun c hc => by first | exact hc | (dsimp only at hc ⊢; omega) | omega)
    have g_14 : (0 : Int) ≤ (I_9 o 7).toInt ∧ (I_9 o 7).toInt ≤ 5 := hR_11.at0 ra 7 (by decide)
    exact (hp _ _ hR_11 hf_13 (by first | omega | (intro h; omega) | exact Or.inl rfl | exact Or.inr rfl))
  · have d_15 := iNe c_3
    refine y_Tape_step hok hw ra hR (fun I_18 L_19 hR_20 fr_21 u_17 => ⟨I_18, L_19, rfl, rfl, ?_⟩)
    have hf_22 : Fm (fun c => c = o) I0 I_18 := hf.call fr_21 (fun c hc => by first | exact hc | (dsimp only at hc ⊢; omega) | omega)
    have g_23 : (0 : Int) ≤ (I_18 o 7).toInt ∧ (I_18 o 7).toInt ≤ 5 := hR_20.at0 ra 7 (by decide)
    exact (hp _ _ hR_20 hf_22 (by first | omega | (intro h; omega) | exact Or.inl rfl | exact Or.inr rfl))
set_option maxHeartbeats 4000000 in
set_option maxRecDepth 20000 in
theorem y_Tape_closeLine {D : va_G} {cA : FieldType → ClassId} {b : Nat} {E : State → Prop} {R : qRg} {o n : Nat} {sh : Nat → qC} {Rf : Nat → Nat → Option Nat} {I0 : Nat → Nat → Int32} {L0 : Nat → Nat → Int64} {post : Option Value → qS → Prop} (hok : q_ok (qGG D cA b E)) (hw : WfTape (qGG D cA b E) n sh Rf o) (ra : RATape R o) (hR : RI R I0) (hp : ∀ (r : Int32) (I' : Nat → Nat → Int32) (L' : Nat → Nat → Int64), RI R I' → Fm (fun c => c = o) I0 I' → (Bz r) → ((I0 o 7).toInt ≤ (I' o 7).toInt) → ((I' o 7).toInt + 5 * r.toInt ≤ 5) → post (some (.int r)) (n, sh, Rf, I', L')) : Ev (qGG D cA b E) mTape_closeLine 2 (0, 0) 0 (lv_args 0 [.ref o]) [] (n, sh, Rf, I0, L0) post := by
  have hf : Fm (fun c => c = o) I0 I0 := Fm.rf
  have g_1 : (0 : Int) ≤ (I0 o 7).toInt ∧ (I0 o 7).toInt ≤ 5 := hR.at0 ra 7 (by decide)
  refine sTape_closeLine_0 o n sh Rf I0 L0 post  hok hw ?_
  unfold fTape_closeLine_0
  have l_2 : (59 : Int32).toInt = 59 := rfl
  refine y_Tape_isSign hok hw ra hR (fun r_3 u_4 u_5 => ⟨r_3, I0, L0, rfl, rfl, ?_⟩)
  have b_6 : 0 ≤ r_3.toInt ∧ r_3.toInt ≤ 1 := u_4.rg
  refine y_Tape_passIf hok hw ra hR (fun I_9 L_10 hR_11 fr_12 u_8 => ⟨I_9, L_10, rfl, rfl, ?_⟩)
  have hf_13 : Fm (fun c => c = o) I0 I_9 := hf.call fr_12 (fun c hc => by first | exact hc | (dsimp only at hc ⊢; omega) | omega)
  have g_14 : (0 : Int) ≤ (I_9 o 7).toInt ∧ (I_9 o 7).toInt ≤ 5 := hR_11.at0 ra 7 (by decide)
  have g_15 : (0 : Int) ≤ (I_9 o 7).toInt ∧ (I_9 o 7).toInt ≤ 5 := hR_11.at0 ra 7 (by decide)
  have l_16 : (0 : Int32).toInt = 0 := rfl
  refine ⟨fun c_17 => ?_, fun c_17 => ?_⟩
  · have d_18 := iNe c_17
    exact (hp _ _ _ hR_11 hf_13 (Or.inl rfl) (by first | omega | (intro h; omega) | exact Or.inl rfl | exact Or.inr rfl) (by first | omega | (intro h; omega) | exact Or.inl rfl | exact Or.inr rfl))
  · have d_19 := iEq c_17
    have l_20 : (1 : Int32).toInt = 1 := rfl
    exact (hp _ _ _ hR_11 hf_13 (Or.inr rfl) (by first | omega | (intro h; omega) | exact Or.inl rfl | exact Or.inr rfl) (by first | omega | (intro h; omega) | exact Or.inl rfl | exact Or.inr rfl))
set_option maxHeartbeats 4000000 in
set_option maxRecDepth 20000 in
theorem y_Tape_takeNumber {D : va_G} {cA : FieldType → ClassId} {b : Nat} {E : State → Prop} {R : qRg} {o n : Nat} {sh : Nat → qC} {Rf : Nat → Nat → Option Nat} {I0 : Nat → Nat → Int32} {L0 : Nat → Nat → Int64} {post : Option Value → qS → Prop} {p1 : Int32} {p2 : Int32} (hok : q_ok (qGG D cA b E)) (hw : WfTape (qGG D cA b E) n sh Rf o) (ra : RATape R o) (hq0 : (0 : Int) ≤ p1.toInt ∧ p1.toInt ≤ 9999) (hq1 : (0 : Int) ≤ p2.toInt ∧ p2.toInt ≤ 9999) (hR : RI R I0) (hp : ∀ (r : Int32) (I' : Nat → Nat → Int32) (L' : Nat → Nat → Int64), RI R I' → Fm (fun c => c = o) I0 I' → (((-1 : Int) ≤ r.toInt ∧ r.toInt ≤ 9999)) → ((I0 o 7).toInt ≤ (I' o 7).toInt) → (r.toInt ≤ p2.toInt) → post (some (.int r)) (n, sh, Rf, I', L')) : Ev (qGG D cA b E) mTape_takeNumber 1 (0, 0) 0 (lv_args 0 [.ref o, .int p1, .int p2]) [] (n, sh, Rf, I0, L0) post := by
  have hf : Fm (fun c => c = o) I0 I0 := Fm.rf
  have g_1 : (0 : Int) ≤ (I0 o 7).toInt ∧ (I0 o 7).toInt ≤ 5 := hR.at0 ra 7 (by decide)
  refine sTape_takeNumber_0 o n sh Rf I0 L0 post p1 p2 hok hw ?_
  unfold fTape_takeNumber_0
  have g_2 : (0 : Int) ≤ (I0 o 10).toInt ∧ (I0 o 10).toInt ≤ 1600 := hR.at0 ra 10 (by decide)
  refine ⟨tIn (by omega) (by omega), ?_⟩
  refine y_Tape_isNumber hok hw ra hR (fun r_3 u_4 u_5 => ⟨r_3, I0, L0, rfl, rfl, ?_⟩)
  have b_6 : 0 ≤ r_3.toInt ∧ r_3.toInt ≤ 1 := u_4.rg
  have l_7 : (0 : Int32).toInt = 0 := rfl
  refine ⟨fun c_8 => ?_, fun c_8 => ?_⟩
  · have d_9 := iNe c_8
    refine ⟨fun c_10 => ?_, fun c_10 => ?_⟩
    · have d_11 := iLt c_10
      unfold fTape_takeNumber_35
      have l_12 : (4 : Int32).toInt = 4 := rfl
      refine y_Tape_refuse hok hw ra (by first | omega | (intro h; omega) | exact Or.inl rfl | exact Or.inr rfl) hR (fun I_16 L_17 hR_18 fr_19 u_14 u_15 => ⟨I_16, L_17, rfl, rfl, ?_⟩)
      have hf_20 : Fm (fun c => c = o) I0 I_16 := hf.call fr_19 (fun c hc => by first | exact hc | (dsimp only at hc ⊢; omega) | omega)
      have g_21 : (0 : Int) ≤ (I_16 o 7).toInt ∧ (I_16 o 7).toInt ≤ 5 := hR_18.at0 ra 7 (by decide)
      have g_22 : (0 : Int) ≤ (I_16 o 10).toInt ∧ (I_16 o 10).toInt ≤ 1600 := hR_18.at0 ra 10 (by decide)
      have l_23 : (-1 : Int32).toInt = -1 := rfl
      exact (hp _ _ _ hR_18 hf_20 (by first | omega | (intro h; omega) | exact Or.inl rfl | exact Or.inr rfl) (by first | omega | (intro h; omega) | exact Or.inl rfl | exact Or.inr rfl) (by first | omega | (intro h; omega) | exact Or.inl rfl | exact Or.inr rfl))
    · have d_24 := iNlt c_10
      refine ⟨fun c_25 => ?_, fun c_25 => ?_⟩
      · have d_26 := iLe c_25
        refine y_Tape_step hok hw ra hR (fun I_29 L_30 hR_31 fr_32 u_28 => ⟨I_29, L_30, rfl, rfl, ?_⟩)
        have hf_33 : Fm (fun c => c = o) I0 I_29 := hf.call fr_32 (fun c hc => by first | exact hc | (dsimp only at hc ⊢; omega) | omega)
        have g_34 : (0 : Int) ≤ (I_29 o 7).toInt ∧ (I_29 o 7).toInt ≤ 5 := hR_31.at0 ra 7 (by decide)
        have g_35 : (0 : Int) ≤ (I_29 o 10).toInt ∧ (I_29 o 10).toInt ≤ 1600 := hR_31.at0 ra 10 (by decide)
        exact (hp _ _ _ hR_31 hf_33 (by first | omega | (intro h; omega) | exact Or.inl rfl | exact Or.inr rfl) (by first | omega | (intro h; omega) | exact Or.inl rfl | exact Or.inr rfl) (by first | omega | (intro h; omega) | exact Or.inl rfl | exact Or.inr rfl))
      · have d_36 := iNle c_25
        unfold fTape_takeNumber_35
        have l_37 : (4 : Int32).toInt = 4 := rfl
        refine y_Tape_refuse hok hw ra (by first | omega | (intro h; omega) | exact Or.inl rfl | exact Or.inr rfl) hR (fun I_41 L_42 hR_43 fr_44 u_39 u_40 => ⟨I_41, L_42, rfl, rfl, ?_⟩)
        have hf_45 : Fm (fun c => c = o) I0 I_41 := hf.call fr_44 (fun c hc => by first | exact hc | (dsimp only at hc ⊢; omega) | omega)
        have g_46 : (0 : Int) ≤ (I_41 o 7).toInt ∧ (I_41 o 7).toInt ≤ 5 := hR_43.at0 ra 7 (by decide)
        have g_47 : (0 : Int) ≤ (I_41 o 10).toInt ∧ (I_41 o 10).toInt ≤ 1600 := hR_43.at0 ra 10 (by decide)
        have l_48 : (-1 : Int32).toInt = -1 := rfl
        exact (hp _ _ _ hR_43 hf_45 (by first | omega | (intro h; omega) | exact Or.inl rfl | exact Or.inr rfl) (by first | omega | (intro h; omega) | exact Or.inl rfl | exact Or.inr rfl) (by first | omega | (intro h; omega) | exact Or.inl rfl | exact Or.inr rfl))
  · have d_49 := iEq c_8
    have l_50 : (2 : Int32).toInt = 2 := rfl
    refine y_Tape_refuse hok hw ra (by first | omega | (intro h; omega) | exact Or.inl rfl | exact Or.inr rfl) hR (fun I_54 L_55 hR_56 fr_57 u_52 u_53 => ⟨I_54, L_55, rfl, rfl, ?_⟩)
    have hf_58 : Fm (fun c => c = o) I0 I_54 := hf.call fr_57 (fun c hc => by first | exact hc | (dsimp only at hc ⊢; omega) | omega)
    have g_59 : (0 : Int) ≤ (I_54 o 7).toInt ∧ (I_54 o 7).toInt ≤ 5 := hR_56.at0 ra 7 (by decide)
    have g_60 : (0 : Int) ≤ (I_54 o 10).toInt ∧ (I_54 o 10).toInt ≤ 1600 := hR_56.at0 ra 10 (by decide)
    have l_61 : (-1 : Int32).toInt = -1 := rfl
    exact (hp _ _ _ hR_56 hf_58 (by first | omega | (intro h; omega) | exact Or.inl rfl | exact Or.inr rfl) (by first | omega | (intro h; omega) | exact Or.inl rfl | exact Or.inr rfl) (by first | omega | (intro h; omega) | exact Or.inl rfl | exact Or.inr rfl))
set_option maxHeartbeats 4000000 in
set_option maxRecDepth 20000 in
theorem y_Tape_takeNumberBehind {D : va_G} {cA : FieldType → ClassId} {b : Nat} {E : State → Prop} {R : qRg} {o n : Nat} {sh : Nat → qC} {Rf : Nat → Nat → Option Nat} {I0 : Nat → Nat → Int32} {L0 : Nat → Nat → Int64} {post : Option Value → qS → Prop} {p1 : Int32} {p2 : Int32} {p3 : Int32} (hok : q_ok (qGG D cA b E)) (hw : WfTape (qGG D cA b E) n sh Rf o) (ra : RATape R o) (hq0 : (0 : Int) ≤ p2.toInt ∧ p2.toInt ≤ 9999) (hq1 : (0 : Int) ≤ p3.toInt ∧ p3.toInt ≤ 9999) (hR : RI R I0) (hp : ∀ (r : Int32) (I' : Nat → Nat → Int32) (L' : Nat → Nat → Int64), RI R I' → Fm (fun c => c = o) I0 I' → (((-1 : Int) ≤ r.toInt ∧ r.toInt ≤ 9999)) → ((I0 o 7).toInt ≤ (I' o 7).toInt) → (r.toInt ≤ p3.toInt) → post (some (.int r)) (n, sh, Rf, I', L')) : Ev (qGG D cA b E) mTape_takeNumberBehind 2 (0, 0) 0 (lv_args 0 [.ref o, .int p1, .int p2, .int p3]) [] (n, sh, Rf, I0, L0) post := by
  have hf : Fm (fun c => c = o) I0 I0 := Fm.rf
  have g_1 : (0 : Int) ≤ (I0 o 7).toInt ∧ (I0 o 7).toInt ≤ 5 := hR.at0 ra 7 (by decide)
  refine sTape_takeNumberBehind_0 o n sh Rf I0 L0 post p1 p2 p3 hok hw ?_
  unfold fTape_takeNumberBehind_0
  refine y_Tape_isWord hok hw ra hR (fun r_2 u_3 => ⟨r_2, I0, L0, rfl, rfl, ?_⟩)
  have b_4 : 0 ≤ r_2.toInt ∧ r_2.toInt ≤ 1 := u_3.rg
  refine y_Tape_passIf hok hw ra hR (fun I_7 L_8 hR_9 fr_10 u_6 => ⟨I_7, L_8, rfl, rfl, ?_⟩)
  have hf_11 : Fm (fun c => c = o) I0 I_7 := hf.call fr_10 (fun c hc => by first | exact hc | (dsimp only at hc ⊢; omega) | omega)
  have g_12 : (0 : Int) ≤ (I_7 o 7).toInt ∧ (I_7 o 7).toInt ≤ 5 := hR_9.at0 ra 7 (by decide)
  refine y_Tape_takeNumber hok hw ra (by first | omega | (intro h; omega) | exact Or.inl rfl | exact Or.inr rfl) (by first | omega | (intro h; omega) | exact Or.inl rfl | exact Or.inr rfl) hR_9 (fun r_13 I_17 L_18 hR_19 fr_20 u_14 u_15 u_16 => ⟨r_13, I_17, L_18, rfl, rfl, ?_⟩)
  have hf_21 : Fm (fun c => c = o) I0 I_17 := hf_11.call fr_20 (fun c hc => by first | exact hc | (dsimp only at hc ⊢; omega) | omega)
  have g_22 : (0 : Int) ≤ (I_17 o 7).toInt ∧ (I_17 o 7).toInt ≤ 5 := hR_19.at0 ra 7 (by decide)
  exact (hp _ _ _ hR_19 hf_21 (by first | omega | (intro h; omega) | exact Or.inl rfl | exact Or.inr rfl) (by first | omega | (intro h; omega) | exact Or.inl rfl | exact Or.inr rfl) (by first | omega | (intro h; omega) | exact Or.inl rfl | exact Or.inr rfl))
set_option maxHeartbeats 4000000 in
set_option maxRecDepth 20000 in
theorem y_Tape_takePlaceUnlike {D : va_G} {cA : FieldType → ClassId} {b : Nat} {E : State → Prop} {R : qRg} {o n : Nat} {sh : Nat → qC} {Rf : Nat → Nat → Option Nat} {I0 : Nat → Nat → Int32} {L0 : Nat → Nat → Int64} {post : Option Value → qS → Prop} {p1 : Int32} (hok : q_ok (qGG D cA b E)) (hw : WfTape (qGG D cA b E) n sh Rf o) (ra : RATape R o) (hq0 : TokOK I0 o) (hR : RI R I0) (hp : ∀ (r : Int32) (I' : Nat → Nat → Int32) (L' : Nat → Nat → Int64), RI R I' → Fm (fun c => c = o) I0 I' → (((-1 : Int) ≤ r.toInt ∧ r.toInt ≤ 15)) → ((I0 o 7).toInt ≤ (I' o 7).toInt) → (0 ≤ r.toInt + (I' o 7).toInt) → post (some (.int r)) (n, sh, Rf, I', L')) : Ev (qGG D cA b E) mTape_takePlaceUnlike 1 (0, 0) 0 (lv_args 0 [.ref o, .int p1]) [] (n, sh, Rf, I0, L0) post := by
  have hf : Fm (fun c => c = o) I0 I0 := Fm.rf
  have g_1 : (0 : Int) ≤ (I0 o 7).toInt ∧ (I0 o 7).toInt ≤ 5 := hR.at0 ra 7 (by decide)
  refine sTape_takePlaceUnlike_0 o n sh Rf I0 L0 post p1 hok hw ?_
  unfold fTape_takePlaceUnlike_0
  have tk := (hq0 (I0 o 10).toNatClampNeg).2
  have g_2 : (0 : Int) ≤ (I0 o 10).toInt ∧ (I0 o 10).toInt ≤ 1600 := hR.at0 ra 10 (by decide)
  refine ⟨tIn (by omega) (by omega), ?_⟩
  have g_3 : (0 : Int) ≤ (I0 o 7).toInt ∧ (I0 o 7).toInt ≤ 5 := hR.at0 ra 7 (by decide)
  have l_4 : (0 : Int32).toInt = 0 := rfl
  refine ⟨fun c_5 => ?_, fun c_5 => ?_⟩
  · have d_6 := iNe c_5
    unfold fTape_takePlaceUnlike_30
    have l_7 : (2 : Int32).toInt = 2 := rfl
    refine y_Tape_refuse hok hw ra (by first | omega | (intro h; omega) | exact Or.inl rfl | exact Or.inr rfl) hR (fun I_11 L_12 hR_13 fr_14 u_9 u_10 => ⟨I_11, L_12, rfl, rfl, ?_⟩)
    have hf_15 : Fm (fun c => c = o) I0 I_11 := hf.call fr_14 (fun c hc => by first | exact hc | (dsimp only at hc ⊢; omega) | omega)
    have g_16 : (0 : Int) ≤ (I_11 o 7).toInt ∧ (I_11 o 7).toInt ≤ 5 := hR_13.at0 ra 7 (by decide)
    have g_17 : (0 : Int) ≤ (I_11 o 10).toInt ∧ (I_11 o 10).toInt ≤ 1600 := hR_13.at0 ra 10 (by decide)
    have k_18 : TokOK I_11 o := hq0.fr (fr_14 _ (by first | omega | (dsimp only; omega))) (fr_14 _ (by first | omega | (dsimp only; omega)))
    have l_19 : (-1 : Int32).toInt = -1 := rfl
    exact (hp _ _ _ hR_13 hf_15 (by first | omega | (intro h; omega) | exact Or.inl rfl | exact Or.inr rfl) (by first | omega | (intro h; omega) | exact Or.inl rfl | exact Or.inr rfl) (by first | omega | (intro h; omega) | exact Or.inl rfl | exact Or.inr rfl))
  · have d_20 := iEq c_5
    have g_21 : (0 : Int) ≤ (I0 o 10).toInt ∧ (I0 o 10).toInt ≤ 1600 := hR.at0 ra 10 (by decide)
    refine ⟨tIn (by omega) (by omega), ?_⟩
    have l_22 : (3 : Int32).toInt = 3 := rfl
    refine ⟨fun c_23 => ?_, fun c_23 => ?_⟩
    · have d_24 := iEq c_23
      refine ⟨fun c_25 => ?_, fun c_25 => ?_⟩
      · have d_26 := iNe c_25
        refine y_Tape_step hok hw ra hR (fun I_29 L_30 hR_31 fr_32 u_28 => ⟨I_29, L_30, rfl, rfl, ?_⟩)
        have hf_33 : Fm (fun c => c = o) I0 I_29 := hf.call fr_32 (fun c hc => by first | exact hc | (dsimp only at hc ⊢; omega) | omega)
        have g_34 : (0 : Int) ≤ (I_29 o 7).toInt ∧ (I_29 o 7).toInt ≤ 5 := hR_31.at0 ra 7 (by decide)
        have g_35 : (0 : Int) ≤ (I_29 o 10).toInt ∧ (I_29 o 10).toInt ≤ 1600 := hR_31.at0 ra 10 (by decide)
        have k_36 : TokOK I_29 o := hq0.fr (fr_32 _ (by first | omega | (dsimp only; omega))) (fr_32 _ (by first | omega | (dsimp only; omega)))
        exact (hp _ _ _ hR_31 hf_33 (by first | omega | (intro h; omega) | exact Or.inl rfl | exact Or.inr rfl) (by first | omega | (intro h; omega) | exact Or.inl rfl | exact Or.inr rfl) (by first | omega | (intro h; omega) | exact Or.inl rfl | exact Or.inr rfl))
      · have d_37 := iEq c_25
        have l_38 : (4 : Int32).toInt = 4 := rfl
        refine y_Tape_refuse hok hw ra (by first | omega | (intro h; omega) | exact Or.inl rfl | exact Or.inr rfl) hR (fun I_42 L_43 hR_44 fr_45 u_40 u_41 => ⟨I_42, L_43, rfl, rfl, ?_⟩)
        have hf_46 : Fm (fun c => c = o) I0 I_42 := hf.call fr_45 (fun c hc => by first | exact hc | (dsimp only at hc ⊢; omega) | omega)
        have g_47 : (0 : Int) ≤ (I_42 o 7).toInt ∧ (I_42 o 7).toInt ≤ 5 := hR_44.at0 ra 7 (by decide)
        have g_48 : (0 : Int) ≤ (I_42 o 10).toInt ∧ (I_42 o 10).toInt ≤ 1600 := hR_44.at0 ra 10 (by decide)
        have k_49 : TokOK I_42 o := hq0.fr (fr_45 _ (by first | omega | (dsimp only; omega))) (fr_45 _ (by first | omega | (dsimp only; omega)))
        have l_50 : (-1 : Int32).toInt = -1 := rfl
        exact (hp _ _ _ hR_44 hf_46 (by first | omega | (intro h; omega) | exact Or.inl rfl | exact Or.inr rfl) (by first | omega | (intro h; omega) | exact Or.inl rfl | exact Or.inr rfl) (by first | omega | (intro h; omega) | exact Or.inl rfl | exact Or.inr rfl))
    · have d_51 := iNe c_23
      unfold fTape_takePlaceUnlike_30
      have l_52 : (2 : Int32).toInt = 2 := rfl
      refine y_Tape_refuse hok hw ra (by first | omega | (intro h; omega) | exact Or.inl rfl | exact Or.inr rfl) hR (fun I_56 L_57 hR_58 fr_59 u_54 u_55 => ⟨I_56, L_57, rfl, rfl, ?_⟩)
      have hf_60 : Fm (fun c => c = o) I0 I_56 := hf.call fr_59 (fun c hc => by first | exact hc | (dsimp only at hc ⊢; omega) | omega)
      have g_61 : (0 : Int) ≤ (I_56 o 7).toInt ∧ (I_56 o 7).toInt ≤ 5 := hR_58.at0 ra 7 (by decide)
      have g_62 : (0 : Int) ≤ (I_56 o 10).toInt ∧ (I_56 o 10).toInt ≤ 1600 := hR_58.at0 ra 10 (by decide)
      have k_63 : TokOK I_56 o := hq0.fr (fr_59 _ (by first | omega | (dsimp only; omega))) (fr_59 _ (by first | omega | (dsimp only; omega)))
      have l_64 : (-1 : Int32).toInt = -1 := rfl
      exact (hp _ _ _ hR_58 hf_60 (by first | omega | (intro h; omega) | exact Or.inl rfl | exact Or.inr rfl) (by first | omega | (intro h; omega) | exact Or.inl rfl | exact Or.inr rfl) (by first | omega | (intro h; omega) | exact Or.inl rfl | exact Or.inr rfl))
set_option maxHeartbeats 4000000 in
set_option maxRecDepth 20000 in
theorem yTape_append_3 {D : va_G} {cA : FieldType → ClassId} {b : Nat} {E : State → Prop} {R : qRg} {o n : Nat} {sh : Nat → qC} {Rf : Nat → Nat → Option Nat} {I0 : Nat → Nat → Int32} {L0 : Nat → Nat → Int64} {post : Option Value → qS → Prop} {p1 : Int32} (hok : q_ok (qGG D cA b E)) (hw : WfTape (qGG D cA b E) n sh Rf o) (ra : RATape R o) (hz3 : R.2 3 = true) (hp : ∀ (I' : Nat → Nat → Int32) (L' : Nat → Nat → Int64), RI R I' → Fm (fun c => c = o ∨ c = o + 1) I0 I' → post none (n, sh, Rf, I', L')) : ∀ (k : Nat) {x1 : Int32} {x2 : Int32} {I : Nat → Nat → Int32} {L : Nat → Nat → Int64}, RI R I → Fm (fun c => c = o ∨ c = o + 1) I0 I → ((-8 : Int) ≤ x2.toInt ∧ x2.toInt ≤ 24) → (x2.toInt + 8).toNat < k → Ev (qGG D cA b E) mTape_append 0 (0, 0) 3 [(0, .ref o), (1, .int x1), (2, .int x2)] [] (n, sh, Rf, I, L) post := by
  intro k
  induction k with
  | zero =>
    intro x1 x2 I L hR hf hi0 hm
    exact absurd hm (Nat.not_lt_zero _)
  | succ k ih =>
    intro x1 x2 I L hR hf hi0 hm
    refine sTape_append_3 o n sh Rf I L post x1 x2 hok hw ?_
    unfold fTape_append_3
    have l_1 : (0 : Int32).toInt = 0 := rfl
    refine ⟨fun c_2 => ?_, fun c_2 => ?_⟩
    · have d_3 := iLt c_2
      exact (hp _ _ hR hf )
    · have d_4 := iNlt c_2
      have g_5 : (0 : Int) ≤ (I o 6).toInt ∧ (I o 6).toInt ≤ 1600 := hR.at0 ra 6 (by decide)
      have l_6 : (1600 : Int32).toInt = 1600 := rfl
      refine ⟨fun c_7 => ?_, fun c_7 => ?_⟩
      · have d_8 := iLe c_7
        exact (hp _ _ hR hf )
      · have d_9 := iNle c_7
        have g_10 : (0 : Int) ≤ (I o 6).toInt ∧ (I o 6).toInt ≤ 1600 := hR.at0 ra 6 (by decide)
        refine ⟨tIn (by omega) (by omega), fun I_11 e_12 => ?_⟩
        have hR_13 : RI R I_11 := hR.up ra 1 (by decide) (Or.inl rfl) e_12 (i_lo _) (i_hi _)
        have hf_14 : Fm (fun c => c = o ∨ c = o + 1) I0 I_11 := hf.set (by first | rfl | omega | (dsimp only; omega)) e_12
        have t_15 : (I_11 o 6).toInt = (I o 6).toInt := by rw [← e_12, q_u_ne (by omega)]
        have g_16 : (0 : Int) ≤ (I_11 o 6).toInt ∧ (I_11 o 6).toInt ≤ 1600 := hR_13.at0 ra 6 (by decide)
        have l_17 : (1 : Int32).toInt = 1 := rfl
        have a_18 : ((I_11 o 6) + 1).toInt = (I_11 o 6).toInt + (1 : Int32).toInt := tAdd (by omega) (by omega)
        refine fun I_19 e_20 => ?_
        have hR_21 : RI R I_19 := hR_13.up0 (k := 6) ra (by decide) (Or.inr hz3) e_20 (show (0 : Int) ≤ ((I_11 o 6) + 1).toInt by omega) (show ((I_11 o 6) + 1).toInt ≤ (1600 : Int) by omega)
        have hf_22 : Fm (fun c => c = o ∨ c = o + 1) I0 I_19 := hf_14.set (by first | rfl | omega | (dsimp only; omega)) e_20
        have t_23 : (I_19 o 6).toInt = ((I_11 o 6) + 1).toInt := by rw [← e_20, q_u_at]
        have a_25 : (x2 + Int32.ofInt (-8)).toInt = x2.toInt + (-8) := tIc (by omega) (by omega) (by decide) (by decide)
        generalize ez_24 : (x2 + Int32.ofInt (-8)) = z_24 at a_25 ⊢
        exact ih hR_21 hf_22 (by first | omega | (intro h; omega) | exact Or.inl rfl | exact Or.inr rfl) (by omega)
set_option maxHeartbeats 4000000 in
set_option maxRecDepth 20000 in
theorem y_Tape_append {D : va_G} {cA : FieldType → ClassId} {b : Nat} {E : State → Prop} {R : qRg} {o n : Nat} {sh : Nat → qC} {Rf : Nat → Nat → Option Nat} {I0 : Nat → Nat → Int32} {L0 : Nat → Nat → Int64} {post : Option Value → qS → Prop} {p1 : Int32} (hok : q_ok (qGG D cA b E)) (hw : WfTape (qGG D cA b E) n sh Rf o) (ra : RATape R o) (hz3 : R.2 3 = true) (hR : RI R I0) (hp : ∀ (I' : Nat → Nat → Int32) (L' : Nat → Nat → Int64), RI R I' → Fm (fun c => c = o ∨ c = o + 1) I0 I' → post none (n, sh, Rf, I', L')) : Ev (qGG D cA b E) mTape_append 0 (0, 0) 0 (lv_args 0 [.ref o, .int p1]) [] (n, sh, Rf, I0, L0) post := by
  have hf : Fm (fun c => c = o ∨ c = o + 1) I0 I0 := Fm.rf
  refine sTape_append_0 o n sh Rf I0 L0 post p1 hok hw ?_
  unfold fTape_append_0
  have l_26 : (24 : Int32).toInt = 24 := rfl
  exact yTape_append_3 (I0 := I0) (L0 := L0) (p1 := p1) hok hw ra hz3 hp  _ hR hf (by first | omega | (intro h; omega) | exact Or.inl rfl | exact Or.inr rfl) (Nat.lt_succ_self _)
