/-! Safety of Tape: by program (spec.py). -/
set_option maxHeartbeats 4000000 in
set_option maxRecDepth 20000 in
theorem y_Tape_byteAt {D : va_G} {cA : FieldType → ClassId} {b : Nat} {E : State → Prop} {R : qRg} {o n : Nat} {sh : Nat → qC} {Rf : Nat → Nat → Option Nat} {I0 : Nat → Nat → Int32} {L0 : Nat → Nat → Int64} {post : Option Value → qS → Prop} {p1 : Int32} (hok : q_ok (qGG D cA b E)) (hw : WfTape (qGG D cA b E) n sh Rf o) (ra : RATape R o) (hR : RI R I0) (hp : ∀ (r : Int32) , post (some (.int r)) (n, sh, Rf, I0, L0)) : Ev (qGG D cA b E) mTape_byteAt 0 (0, 0) 0 (lv_args 0 [.ref o, .int p1]) [] (n, sh, Rf, I0, L0) post := by
  refine sTape_byteAt_0 o n sh Rf I0 L0 post p1 hok hw ?_
  unfold fTape_byteAt_0
  have l_1 : (0 : Int32).toInt = 0 := rfl
  refine ⟨fun c_2 => ?_, fun c_2 => ?_⟩
  · have d_3 := iLt c_2
    unfold fTape_byteAt_19
    exact (hp _ )
  · have d_4 := iNlt c_2
    have g_5 : (0 : Int) ≤ (I0 o 6).toInt ∧ (I0 o 6).toInt ≤ 1600 := hR.at0 ra 6 (by decide)
    refine ⟨fun c_6 => ?_, fun c_6 => ?_⟩
    · have d_7 := iLe c_6
      unfold fTape_byteAt_19
      exact (hp _ )
    · have d_8 := iNle c_6
      have l_9 : (1600 : Int32).toInt = 1600 := rfl
      refine ⟨fun c_10 => ?_, fun c_10 => ?_⟩
      · have d_11 := iLt c_10
        refine ⟨tIn (by omega) (by omega), ?_⟩
        exact (hp _ )
      · have d_12 := iNlt c_10
        exfalso; omega
set_option maxHeartbeats 4000000 in
set_option maxRecDepth 20000 in
theorem y_Tape_isLetter {D : va_G} {cA : FieldType → ClassId} {b : Nat} {E : State → Prop} {R : qRg} {n : Nat} {sh : Nat → qC} {Rf : Nat → Nat → Option Nat} {I0 : Nat → Nat → Int32} {L0 : Nat → Nat → Int64} {post : Option Value → qS → Prop} {p0 : Int32} (hok : q_ok (qGG D cA b E)) (hR : RI R I0) (hp : ∀ (r : Int32) , (Bz r) → post (some (.int r)) (n, sh, Rf, I0, L0)) : Ev (qGG D cA b E) mTape_isLetter 0 (0, 0) 0 (lv_args 0 [.int p0]) [] (n, sh, Rf, I0, L0) post := by
  refine sTape_isLetter_0 n sh Rf I0 L0 post p0 hok  ?_
  unfold fTape_isLetter_0
  have l_1 : (97 : Int32).toInt = 97 := rfl
  refine ⟨fun c_2 => ?_, fun c_2 => ?_⟩
  · have d_3 := iLt c_2
    have l_4 : (0 : Int32).toInt = 0 := rfl
    exact (hp _ (Or.inl rfl))
  · have d_5 := iNlt c_2
    have l_6 : (122 : Int32).toInt = 122 := rfl
    refine ⟨fun c_7 => ?_, fun c_7 => ?_⟩
    · have d_8 := iLt c_7
      have l_9 : (0 : Int32).toInt = 0 := rfl
      exact (hp _ (Or.inl rfl))
    · have d_10 := iNlt c_7
      have l_11 : (1 : Int32).toInt = 1 := rfl
      exact (hp _ (Or.inr rfl))
set_option maxHeartbeats 4000000 in
set_option maxRecDepth 20000 in
theorem y_Tape_isDigit {D : va_G} {cA : FieldType → ClassId} {b : Nat} {E : State → Prop} {R : qRg} {n : Nat} {sh : Nat → qC} {Rf : Nat → Nat → Option Nat} {I0 : Nat → Nat → Int32} {L0 : Nat → Nat → Int64} {post : Option Value → qS → Prop} {p0 : Int32} (hok : q_ok (qGG D cA b E)) (hR : RI R I0) (hp : ∀ (r : Int32) , (Bz r) → post (some (.int r)) (n, sh, Rf, I0, L0)) : Ev (qGG D cA b E) mTape_isDigit 0 (0, 0) 0 (lv_args 0 [.int p0]) [] (n, sh, Rf, I0, L0) post := by
  refine sTape_isDigit_0 n sh Rf I0 L0 post p0 hok  ?_
  unfold fTape_isDigit_0
  have l_1 : (48 : Int32).toInt = 48 := rfl
  refine ⟨fun c_2 => ?_, fun c_2 => ?_⟩
  · have d_3 := iLt c_2
    have l_4 : (0 : Int32).toInt = 0 := rfl
    exact (hp _ (Or.inl rfl))
  · have d_5 := iNlt c_2
    have l_6 : (57 : Int32).toInt = 57 := rfl
    refine ⟨fun c_7 => ?_, fun c_7 => ?_⟩
    · have d_8 := iLt c_7
      have l_9 : (0 : Int32).toInt = 0 := rfl
      exact (hp _ (Or.inl rfl))
    · have d_10 := iNlt c_7
      have l_11 : (1 : Int32).toInt = 1 := rfl
      exact (hp _ (Or.inr rfl))
set_option maxHeartbeats 4000000 in
set_option maxRecDepth 20000 in
theorem y_Tape_kind {D : va_G} {cA : FieldType → ClassId} {b : Nat} {E : State → Prop} {R : qRg} {o n : Nat} {sh : Nat → qC} {Rf : Nat → Nat → Option Nat} {I0 : Nat → Nat → Int32} {L0 : Nat → Nat → Int64} {post : Option Value → qS → Prop} (hok : q_ok (qGG D cA b E)) (hw : WfTape (qGG D cA b E) n sh Rf o) (ra : RATape R o) (hR : RI R I0) (hp : ∀ (r : Int32) , (r = I0 (o + 3) (I0 o 10).toNatClampNeg) → post (some (.int r)) (n, sh, Rf, I0, L0)) : Ev (qGG D cA b E) mTape_kind 0 (0, 0) 0 (lv_args 0 [.ref o]) [] (n, sh, Rf, I0, L0) post := by
  refine sTape_kind_0 o n sh Rf I0 L0 post  hok hw ?_
  unfold fTape_kind_0
  have g_1 : (0 : Int) ≤ (I0 o 10).toInt ∧ (I0 o 10).toInt ≤ 1600 := hR.at0 ra 10 (by decide)
  refine ⟨tIn (by omega) (by omega), ?_⟩
  exact (hp _ (by rfl))
set_option maxHeartbeats 4000000 in
set_option maxRecDepth 20000 in
theorem y_Tape_value {D : va_G} {cA : FieldType → ClassId} {b : Nat} {E : State → Prop} {R : qRg} {o n : Nat} {sh : Nat → qC} {Rf : Nat → Nat → Option Nat} {I0 : Nat → Nat → Int32} {L0 : Nat → Nat → Int64} {post : Option Value → qS → Prop} (hok : q_ok (qGG D cA b E)) (hw : WfTape (qGG D cA b E) n sh Rf o) (ra : RATape R o) (hR : RI R I0) (hp : ∀ (r : Int32) , (r = I0 (o + 5) (I0 o 10).toNatClampNeg) → post (some (.int r)) (n, sh, Rf, I0, L0)) : Ev (qGG D cA b E) mTape_value 0 (0, 0) 0 (lv_args 0 [.ref o]) [] (n, sh, Rf, I0, L0) post := by
  refine sTape_value_0 o n sh Rf I0 L0 post  hok hw ?_
  unfold fTape_value_0
  have g_1 : (0 : Int) ≤ (I0 o 10).toInt ∧ (I0 o 10).toInt ≤ 1600 := hR.at0 ra 10 (by decide)
  refine ⟨tIn (by omega) (by omega), ?_⟩
  exact (hp _ (by rfl))
set_option maxHeartbeats 4000000 in
set_option maxRecDepth 20000 in
theorem y_Tape_name {D : va_G} {cA : FieldType → ClassId} {b : Nat} {E : State → Prop} {R : qRg} {o n : Nat} {sh : Nat → qC} {Rf : Nat → Nat → Option Nat} {I0 : Nat → Nat → Int32} {L0 : Nat → Nat → Int64} {post : Option Value → qS → Prop} (hok : q_ok (qGG D cA b E)) (hw : WfTape (qGG D cA b E) n sh Rf o) (ra : RATape R o) (hR : RI R I0) (hp : ∀ (r : Int64) , post (some (.long r)) (n, sh, Rf, I0, L0)) : Ev (qGG D cA b E) mTape_name 0 (0, 0) 0 (lv_args 0 [.ref o]) [] (n, sh, Rf, I0, L0) post := by
  refine sTape_name_0 o n sh Rf I0 L0 post  hok hw ?_
  unfold fTape_name_0
  have g_1 : (0 : Int) ≤ (I0 o 10).toInt ∧ (I0 o 10).toInt ≤ 1600 := hR.at0 ra 10 (by decide)
  refine ⟨tIn (by omega) (by omega), ?_⟩
  exact (hp _ )
set_option maxHeartbeats 4000000 in
set_option maxRecDepth 20000 in
theorem y_Tape_isWord {D : va_G} {cA : FieldType → ClassId} {b : Nat} {E : State → Prop} {R : qRg} {o n : Nat} {sh : Nat → qC} {Rf : Nat → Nat → Option Nat} {I0 : Nat → Nat → Int32} {L0 : Nat → Nat → Int64} {post : Option Value → qS → Prop} {p1 : Int32} (hok : q_ok (qGG D cA b E)) (hw : WfTape (qGG D cA b E) n sh Rf o) (ra : RATape R o) (hR : RI R I0) (hp : ∀ (r : Int32) , (Bz r) → post (some (.int r)) (n, sh, Rf, I0, L0)) : Ev (qGG D cA b E) mTape_isWord 0 (0, 0) 0 (lv_args 0 [.ref o, .int p1]) [] (n, sh, Rf, I0, L0) post := by
  refine sTape_isWord_0 o n sh Rf I0 L0 post p1 hok hw ?_
  unfold fTape_isWord_0
  have g_1 : (0 : Int) ≤ (I0 o 7).toInt ∧ (I0 o 7).toInt ≤ 5 := hR.at0 ra 7 (by decide)
  have l_2 : (0 : Int32).toInt = 0 := rfl
  refine ⟨fun c_3 => ?_, fun c_3 => ?_⟩
  · have d_4 := iNe c_3
    exact (hp _ (Or.inl rfl))
  · have d_5 := iEq c_3
    have g_6 : (0 : Int) ≤ (I0 o 10).toInt ∧ (I0 o 10).toInt ≤ 1600 := hR.at0 ra 10 (by decide)
    refine ⟨tIn (by omega) (by omega), ?_⟩
    have l_7 : (1 : Int32).toInt = 1 := rfl
    refine ⟨fun c_8 => ?_, fun c_8 => ?_⟩
    · have d_9 := iNe c_8
      exact (hp _ (Or.inl rfl))
    · have d_10 := iEq c_8
      have g_11 : (0 : Int) ≤ (I0 o 10).toInt ∧ (I0 o 10).toInt ≤ 1600 := hR.at0 ra 10 (by decide)
      refine ⟨tIn (by omega) (by omega), ?_⟩
      refine ⟨fun c_12 => ?_, fun c_12 => ?_⟩
      · have d_13 := iNe c_12
        exact (hp _ (Or.inl rfl))
      · have d_14 := iEq c_12
        exact (hp _ (Or.inr rfl))
set_option maxHeartbeats 4000000 in
set_option maxRecDepth 20000 in
theorem y_Tape_isSign {D : va_G} {cA : FieldType → ClassId} {b : Nat} {E : State → Prop} {R : qRg} {o n : Nat} {sh : Nat → qC} {Rf : Nat → Nat → Option Nat} {I0 : Nat → Nat → Int32} {L0 : Nat → Nat → Int64} {post : Option Value → qS → Prop} {p1 : Int32} (hok : q_ok (qGG D cA b E)) (hw : WfTape (qGG D cA b E) n sh Rf o) (ra : RATape R o) (hR : RI R I0) (hp : ∀ (r : Int32) , (Bz r) → (Im (r.toInt ≠ 0) ((I0 (o + 3) (I0 o 10).toNatClampNeg).toInt = 4 ∧ (I0 (o + 5) (I0 o 10).toNatClampNeg).toInt = p1.toInt)) → post (some (.int r)) (n, sh, Rf, I0, L0)) : Ev (qGG D cA b E) mTape_isSign 0 (0, 0) 0 (lv_args 0 [.ref o, .int p1]) [] (n, sh, Rf, I0, L0) post := by
  refine sTape_isSign_0 o n sh Rf I0 L0 post p1 hok hw ?_
  unfold fTape_isSign_0
  have g_1 : (0 : Int) ≤ (I0 o 7).toInt ∧ (I0 o 7).toInt ≤ 5 := hR.at0 ra 7 (by decide)
  have l_2 : (0 : Int32).toInt = 0 := rfl
  refine ⟨fun c_3 => ?_, fun c_3 => ?_⟩
  · have d_4 := iNe c_3
    exact (hp _ (Or.inl rfl) (by intro _; omega))
  · have d_5 := iEq c_3
    have g_6 : (0 : Int) ≤ (I0 o 10).toInt ∧ (I0 o 10).toInt ≤ 1600 := hR.at0 ra 10 (by decide)
    refine ⟨tIn (by omega) (by omega), ?_⟩
    have l_7 : (4 : Int32).toInt = 4 := rfl
    refine ⟨fun c_8 => ?_, fun c_8 => ?_⟩
    · have d_9 := iNe c_8
      exact (hp _ (Or.inl rfl) (by intro _; omega))
    · have d_10 := iEq c_8
      have g_11 : (0 : Int) ≤ (I0 o 10).toInt ∧ (I0 o 10).toInt ≤ 1600 := hR.at0 ra 10 (by decide)
      refine ⟨tIn (by omega) (by omega), ?_⟩
      refine ⟨fun c_12 => ?_, fun c_12 => ?_⟩
      · have d_13 := iNe c_12
        exact (hp _ (Or.inl rfl) (by intro _; omega))
      · have d_14 := iEq c_12
        have l_15 : (1 : Int32).toInt = 1 := rfl
        exact (hp _ (Or.inr rfl) (by intro _; omega))
set_option maxHeartbeats 4000000 in
set_option maxRecDepth 20000 in
theorem y_Tape_isNumber {D : va_G} {cA : FieldType → ClassId} {b : Nat} {E : State → Prop} {R : qRg} {o n : Nat} {sh : Nat → qC} {Rf : Nat → Nat → Option Nat} {I0 : Nat → Nat → Int32} {L0 : Nat → Nat → Int64} {post : Option Value → qS → Prop} (hok : q_ok (qGG D cA b E)) (hw : WfTape (qGG D cA b E) n sh Rf o) (ra : RATape R o) (hR : RI R I0) (hp : ∀ (r : Int32) , (Bz r) → (Im (r.toInt ≠ 0) ((I0 (o + 3) (I0 o 10).toNatClampNeg).toInt = 2)) → post (some (.int r)) (n, sh, Rf, I0, L0)) : Ev (qGG D cA b E) mTape_isNumber 0 (0, 0) 0 (lv_args 0 [.ref o]) [] (n, sh, Rf, I0, L0) post := by
  refine sTape_isNumber_0 o n sh Rf I0 L0 post  hok hw ?_
  unfold fTape_isNumber_0
  have g_1 : (0 : Int) ≤ (I0 o 7).toInt ∧ (I0 o 7).toInt ≤ 5 := hR.at0 ra 7 (by decide)
  have l_2 : (0 : Int32).toInt = 0 := rfl
  refine ⟨fun c_3 => ?_, fun c_3 => ?_⟩
  · have d_4 := iNe c_3
    exact (hp _ (Or.inl rfl) (by intro _; omega))
  · have d_5 := iEq c_3
    have g_6 : (0 : Int) ≤ (I0 o 10).toInt ∧ (I0 o 10).toInt ≤ 1600 := hR.at0 ra 10 (by decide)
    refine ⟨tIn (by omega) (by omega), ?_⟩
    have l_7 : (2 : Int32).toInt = 2 := rfl
    refine ⟨fun c_8 => ?_, fun c_8 => ?_⟩
    · have d_9 := iNe c_8
      exact (hp _ (Or.inl rfl) (by intro _; omega))
    · have d_10 := iEq c_8
      have l_11 : (1 : Int32).toInt = 1 := rfl
      exact (hp _ (Or.inr rfl) (by intro _; omega))
set_option maxHeartbeats 4000000 in
set_option maxRecDepth 20000 in
theorem y_Tape_atEnd {D : va_G} {cA : FieldType → ClassId} {b : Nat} {E : State → Prop} {R : qRg} {o n : Nat} {sh : Nat → qC} {Rf : Nat → Nat → Option Nat} {I0 : Nat → Nat → Int32} {L0 : Nat → Nat → Int64} {post : Option Value → qS → Prop} (hok : q_ok (qGG D cA b E)) (hw : WfTape (qGG D cA b E) n sh Rf o) (ra : RATape R o) (hR : RI R I0) (hp : ∀ (r : Int32) , (Bz r) → post (some (.int r)) (n, sh, Rf, I0, L0)) : Ev (qGG D cA b E) mTape_atEnd 0 (0, 0) 0 (lv_args 0 [.ref o]) [] (n, sh, Rf, I0, L0) post := by
  refine sTape_atEnd_0 o n sh Rf I0 L0 post  hok hw ?_
  unfold fTape_atEnd_0
  have g_1 : (0 : Int) ≤ (I0 o 10).toInt ∧ (I0 o 10).toInt ≤ 1600 := hR.at0 ra 10 (by decide)
  refine ⟨tIn (by omega) (by omega), ?_⟩
  have l_2 : (0 : Int32).toInt = 0 := rfl
  refine ⟨fun c_3 => ?_, fun c_3 => ?_⟩
  · have d_4 := iNe c_3
    exact (hp _ (Or.inl rfl))
  · have d_5 := iEq c_3
    have l_6 : (1 : Int32).toInt = 1 := rfl
    exact (hp _ (Or.inr rfl))
set_option maxHeartbeats 4000000 in
set_option maxRecDepth 20000 in
theorem y_Tape_step {D : va_G} {cA : FieldType → ClassId} {b : Nat} {E : State → Prop} {R : qRg} {o n : Nat} {sh : Nat → qC} {Rf : Nat → Nat → Option Nat} {I0 : Nat → Nat → Int32} {L0 : Nat → Nat → Int64} {post : Option Value → qS → Prop} (hok : q_ok (qGG D cA b E)) (hw : WfTape (qGG D cA b E) n sh Rf o) (ra : RATape R o) (hR : RI R I0) (hp : ∀ (I' : Nat → Nat → Int32) (L' : Nat → Nat → Int64), RI R I' → Fm (fun c => c = o) I0 I' → ((I0 o 7).toInt ≤ (I' o 7).toInt) → post none (n, sh, Rf, I', L')) : Ev (qGG D cA b E) mTape_step 0 (0, 0) 0 (lv_args 0 [.ref o]) [] (n, sh, Rf, I0, L0) post := by
  have hf : Fm (fun c => c = o) I0 I0 := Fm.rf
  refine sTape_step_0 o n sh Rf I0 L0 post  hok hw ?_
  unfold fTape_step_0
  have g_1 : (0 : Int) ≤ (I0 o 10).toInt ∧ (I0 o 10).toInt ≤ 1600 := hR.at0 ra 10 (by decide)
  refine ⟨tIn (by omega) (by omega), ?_⟩
  have l_2 : (0 : Int32).toInt = 0 := rfl
  refine ⟨fun c_3 => ?_, fun c_3 => ?_⟩
  · have d_4 := iEq c_3
    exact (hp _ _ hR hf (by omega))
  · have d_5 := iNe c_3
    have g_6 : (0 : Int) ≤ (I0 o 10).toInt ∧ (I0 o 10).toInt ≤ 1600 := hR.at0 ra 10 (by decide)
    refine ⟨tIn (by omega) (by omega), ?_⟩
    have l_7 : (5 : Int32).toInt = 5 := rfl
    refine ⟨fun c_8 => ?_, fun c_8 => ?_⟩
    · have d_9 := iEq c_8
      exact (hp _ _ hR hf (by omega))
    · have d_10 := iNe c_8
      have g_11 : (0 : Int) ≤ (I0 o 10).toInt ∧ (I0 o 10).toInt ≤ 1600 := hR.at0 ra 10 (by decide)
      have l_12 : (1600 : Int32).toInt = 1600 := rfl
      refine ⟨fun c_13 => ?_, fun c_13 => ?_⟩
      · have d_14 := iLe c_13
        exact (hp _ _ hR hf (by omega))
      · have d_15 := iNle c_13
        have g_16 : (0 : Int) ≤ (I0 o 10).toInt ∧ (I0 o 10).toInt ≤ 1600 := hR.at0 ra 10 (by decide)
        have l_17 : (1 : Int32).toInt = 1 := rfl
        have a_18 : ((I0 o 10) + 1).toInt = (I0 o 10).toInt + (1 : Int32).toInt := tAdd (by omega) (by omega)
        refine fun I_19 e_20 => ?_
        have hR_21 : RI R I_19 := hR.up0 ra (by decide) e_20 (show (0 : Int) ≤ ((I0 o 10) + 1).toInt by omega) (show ((I0 o 10) + 1).toInt ≤ (1600 : Int) by omega)
        have hf_22 : Fm (fun c => c = o) I0 I_19 := hf.set (by first | rfl | omega | (dsimp only; omega)) e_20
        have t_23 : (I_19 o 7).toInt = (I0 o 7).toInt := by rw [← e_20, q_u_k (by decide)]
        have t_24 : (I_19 o 10).toInt = ((I0 o 10) + 1).toInt := by rw [← e_20, q_u_at]
        exact (hp _ _ hR_21 hf_22 (by omega))
set_option maxHeartbeats 4000000 in
set_option maxRecDepth 20000 in
theorem y_Tape_refuse {D : va_G} {cA : FieldType → ClassId} {b : Nat} {E : State → Prop} {R : qRg} {o n : Nat} {sh : Nat → qC} {Rf : Nat → Nat → Option Nat} {I0 : Nat → Nat → Int32} {L0 : Nat → Nat → Int64} {post : Option Value → qS → Prop} {p1 : Int32} (hok : q_ok (qGG D cA b E)) (hw : WfTape (qGG D cA b E) n sh Rf o) (ra : RATape R o) (hq0 : (1 : Int) ≤ p1.toInt ∧ p1.toInt ≤ 5) (hR : RI R I0) (hp : ∀ (I' : Nat → Nat → Int32) (L' : Nat → Nat → Int64), RI R I' → Fm (fun c => c = o) I0 I' → ((I0 o 7).toInt ≤ (I' o 7).toInt) → (1 ≤ (I' o 7).toInt) → post none (n, sh, Rf, I', L')) : Ev (qGG D cA b E) mTape_refuse 0 (0, 0) 0 (lv_args 0 [.ref o, .int p1]) [] (n, sh, Rf, I0, L0) post := by
  have hf : Fm (fun c => c = o) I0 I0 := Fm.rf
  refine sTape_refuse_0 o n sh Rf I0 L0 post p1 hok hw ?_
  unfold fTape_refuse_0
  have g_1 : (0 : Int) ≤ (I0 o 7).toInt ∧ (I0 o 7).toInt ≤ 5 := hR.at0 ra 7 (by decide)
  have l_2 : (0 : Int32).toInt = 0 := rfl
  refine ⟨fun c_3 => ?_, fun c_3 => ?_⟩
  · have d_4 := iNe c_3
    exact (hp _ _ hR hf (by omega) (by omega))
  · have d_5 := iEq c_3
    have g_6 : (0 : Int) ≤ (I0 o 10).toInt ∧ (I0 o 10).toInt ≤ 1600 := hR.at0 ra 10 (by decide)
    refine ⟨tIn (by omega) (by omega), ?_⟩
    have l_7 : (5 : Int32).toInt = 5 := rfl
    refine ⟨fun c_8 => ?_, fun c_8 => ?_⟩
    · have d_9 := iNe c_8
      unfold fTape_refuse_26
      refine fun I_10 e_11 => ?_
      have hR_12 : RI R I_10 := hR.up0 ra (by decide) e_11 (show (0 : Int) ≤ p1.toInt by omega) (show p1.toInt ≤ (5 : Int) by omega)
      have hf_13 : Fm (fun c => c = o) I0 I_10 := hf.set (by first | rfl | omega | (dsimp only; omega)) e_11
      have t_14 : (I_10 o 7).toInt = p1.toInt := by rw [← e_11, q_u_at]
      have t_15 : (I_10 o 10).toInt = (I0 o 10).toInt := by rw [← e_11, q_u_k (by decide)]
      have g_16 : (0 : Int) ≤ (I_10 o 10).toInt ∧ (I_10 o 10).toInt ≤ 1600 := hR_12.at0 ra 10 (by decide)
      refine ⟨tIn (by omega) (by omega), ?_⟩
      refine fun I_17 e_18 => ?_
      have hR_19 : RI R I_17 := hR_12.up0 ra (by decide) e_18 (i_lo _) (i_hi _)
      have hf_20 : Fm (fun c => c = o) I0 I_17 := hf_13.set (by first | rfl | omega | (dsimp only; omega)) e_18
      have t_21 : (I_17 o 7).toInt = (I_10 o 7).toInt := by rw [← e_18, q_u_k (by decide)]
      have t_22 : (I_17 o 10).toInt = (I_10 o 10).toInt := by rw [← e_18, q_u_k (by decide)]
      exact (hp _ _ hR_19 hf_20 (by omega) (by omega))
    · have d_23 := iEq c_8
      unfold fTape_refuse_26
      have l_24 : (1 : Int32).toInt = 1 := rfl
      refine fun I_25 e_26 => ?_
      have hR_27 : RI R I_25 := hR.up0 ra (by decide) e_26 (show (0 : Int) ≤ (1 : Int32).toInt by omega) (show (1 : Int32).toInt ≤ (5 : Int) by omega)
      have hf_28 : Fm (fun c => c = o) I0 I_25 := hf.set (by first | rfl | omega | (dsimp only; omega)) e_26
      have t_29 : (I_25 o 7).toInt = (1 : Int32).toInt := by rw [← e_26, q_u_at]
      have t_30 : (I_25 o 10).toInt = (I0 o 10).toInt := by rw [← e_26, q_u_k (by decide)]
      have g_31 : (0 : Int) ≤ (I_25 o 10).toInt ∧ (I_25 o 10).toInt ≤ 1600 := hR_27.at0 ra 10 (by decide)
      refine ⟨tIn (by omega) (by omega), ?_⟩
      refine fun I_32 e_33 => ?_
      have hR_34 : RI R I_32 := hR_27.up0 ra (by decide) e_33 (i_lo _) (i_hi _)
      have hf_35 : Fm (fun c => c = o) I0 I_32 := hf_28.set (by first | rfl | omega | (dsimp only; omega)) e_33
      have t_36 : (I_32 o 7).toInt = (I_25 o 7).toInt := by rw [← e_33, q_u_k (by decide)]
      have t_37 : (I_32 o 10).toInt = (I_25 o 10).toInt := by rw [← e_33, q_u_k (by decide)]
      exact (hp _ _ hR_34 hf_35 (by omega) (by omega))
set_option maxHeartbeats 4000000 in
set_option maxRecDepth 20000 in
theorem y_Tape_passIf {D : va_G} {cA : FieldType → ClassId} {b : Nat} {E : State → Prop} {R : qRg} {o n : Nat} {sh : Nat → qC} {Rf : Nat → Nat → Option Nat} {I0 : Nat → Nat → Int32} {L0 : Nat → Nat → Int64} {post : Option Value → qS → Prop} {p1 : Int32} (hok : q_ok (qGG D cA b E)) (hw : WfTape (qGG D cA b E) n sh Rf o) (ra : RATape R o) (hR : RI R I0) (hp : ∀ (I' : Nat → Nat → Int32) (L' : Nat → Nat → Int64), RI R I' → Fm (fun c => c = o) I0 I' → ((I0 o 7).toInt ≤ (I' o 7).toInt) → post none (n, sh, Rf, I', L')) : Ev (qGG D cA b E) mTape_passIf 1 (0, 0) 0 (lv_args 0 [.ref o, .int p1]) [] (n, sh, Rf, I0, L0) post := by
  have hf : Fm (fun c => c = o) I0 I0 := Fm.rf
  refine sTape_passIf_0 o n sh Rf I0 L0 post p1 hok hw ?_
  unfold fTape_passIf_0
  have l_1 : (0 : Int32).toInt = 0 := rfl
  refine ⟨fun c_2 => ?_, fun c_2 => ?_⟩
  · have d_3 := iEq c_2
    have l_4 : (2 : Int32).toInt = 2 := rfl
    refine y_Tape_refuse hok hw ra (by omega) hR (fun I_8 L_9 hR_10 fr_11 u_6 u_7 => ⟨I_8, L_9, rfl, rfl, ?_⟩)
    have hf_12 : Fm (fun c => c = o) I0 I_8 := hf.call fr_11 (fun c hc => by first | exact hc | (dsimp only at hc ⊢; omega) | omega)
    exact (hp _ _ hR_10 hf_12 (by omega))
  · have d_13 := iNe c_2
    refine y_Tape_step hok hw ra hR (fun I_16 L_17 hR_18 fr_19 u_15 => ⟨I_16, L_17, rfl, rfl, ?_⟩)
    have hf_20 : Fm (fun c => c = o) I0 I_16 := hf.call fr_19 (fun c hc => by first | exact hc | (dsimp only at hc ⊢; omega) | omega)
    exact (hp _ _ hR_18 hf_20 (by omega))
set_option maxHeartbeats 4000000 in
set_option maxRecDepth 20000 in
theorem y_Tape_closeLine {D : va_G} {cA : FieldType → ClassId} {b : Nat} {E : State → Prop} {R : qRg} {o n : Nat} {sh : Nat → qC} {Rf : Nat → Nat → Option Nat} {I0 : Nat → Nat → Int32} {L0 : Nat → Nat → Int64} {post : Option Value → qS → Prop} (hok : q_ok (qGG D cA b E)) (hw : WfTape (qGG D cA b E) n sh Rf o) (ra : RATape R o) (hR : RI R I0) (hp : ∀ (r : Int32) (I' : Nat → Nat → Int32) (L' : Nat → Nat → Int64), RI R I' → Fm (fun c => c = o) I0 I' → (Bz r) → ((I0 o 7).toInt ≤ (I' o 7).toInt) → ((I' o 7).toInt + 5 * r.toInt ≤ 5) → post (some (.int r)) (n, sh, Rf, I', L')) : Ev (qGG D cA b E) mTape_closeLine 2 (0, 0) 0 (lv_args 0 [.ref o]) [] (n, sh, Rf, I0, L0) post := by
  have hf : Fm (fun c => c = o) I0 I0 := Fm.rf
  refine sTape_closeLine_0 o n sh Rf I0 L0 post  hok hw ?_
  unfold fTape_closeLine_0
  have l_1 : (59 : Int32).toInt = 59 := rfl
  refine y_Tape_isSign hok hw ra hR (fun r_2 u_3 u_4 => ⟨r_2, I0, L0, rfl, rfl, ?_⟩)
  have b_5 : 0 ≤ r_2.toInt ∧ r_2.toInt ≤ 1 := u_3.rg
  refine y_Tape_passIf hok hw ra hR (fun I_8 L_9 hR_10 fr_11 u_7 => ⟨I_8, L_9, rfl, rfl, ?_⟩)
  have hf_12 : Fm (fun c => c = o) I0 I_8 := hf.call fr_11 (fun c hc => by first | exact hc | (dsimp only at hc ⊢; omega) | omega)
  have g_13 : (0 : Int) ≤ (I_8 o 7).toInt ∧ (I_8 o 7).toInt ≤ 5 := hR_10.at0 ra 7 (by decide)
  have l_14 : (0 : Int32).toInt = 0 := rfl
  refine ⟨fun c_15 => ?_, fun c_15 => ?_⟩
  · have d_16 := iNe c_15
    exact (hp _ _ _ hR_10 hf_12 (Or.inl rfl) (by omega) (by omega))
  · have d_17 := iEq c_15
    have l_18 : (1 : Int32).toInt = 1 := rfl
    exact (hp _ _ _ hR_10 hf_12 (Or.inr rfl) (by omega) (by omega))
set_option maxHeartbeats 4000000 in
set_option maxRecDepth 20000 in
theorem y_Tape_takeNumber {D : va_G} {cA : FieldType → ClassId} {b : Nat} {E : State → Prop} {R : qRg} {o n : Nat} {sh : Nat → qC} {Rf : Nat → Nat → Option Nat} {I0 : Nat → Nat → Int32} {L0 : Nat → Nat → Int64} {post : Option Value → qS → Prop} {p1 : Int32} {p2 : Int32} (hok : q_ok (qGG D cA b E)) (hw : WfTape (qGG D cA b E) n sh Rf o) (ra : RATape R o) (hq0 : (0 : Int) ≤ p1.toInt ∧ p1.toInt ≤ 9999) (hq1 : (0 : Int) ≤ p2.toInt ∧ p2.toInt ≤ 9999) (hR : RI R I0) (hp : ∀ (r : Int32) (I' : Nat → Nat → Int32) (L' : Nat → Nat → Int64), RI R I' → Fm (fun c => c = o) I0 I' → (((-1 : Int) ≤ r.toInt ∧ r.toInt ≤ 9999)) → ((I0 o 7).toInt ≤ (I' o 7).toInt) → (r.toInt ≤ p2.toInt) → post (some (.int r)) (n, sh, Rf, I', L')) : Ev (qGG D cA b E) mTape_takeNumber 1 (0, 0) 0 (lv_args 0 [.ref o, .int p1, .int p2]) [] (n, sh, Rf, I0, L0) post := by
  have hf : Fm (fun c => c = o) I0 I0 := Fm.rf
  refine sTape_takeNumber_0 o n sh Rf I0 L0 post p1 p2 hok hw ?_
  unfold fTape_takeNumber_0
  have g_1 : (0 : Int) ≤ (I0 o 10).toInt ∧ (I0 o 10).toInt ≤ 1600 := hR.at0 ra 10 (by decide)
  refine ⟨tIn (by omega) (by omega), ?_⟩
  refine y_Tape_isNumber hok hw ra hR (fun r_2 u_3 u_4 => ⟨r_2, I0, L0, rfl, rfl, ?_⟩)
  have b_5 : 0 ≤ r_2.toInt ∧ r_2.toInt ≤ 1 := u_3.rg
  have l_6 : (0 : Int32).toInt = 0 := rfl
  refine ⟨fun c_7 => ?_, fun c_7 => ?_⟩
  · have d_8 := iNe c_7
    refine ⟨fun c_9 => ?_, fun c_9 => ?_⟩
    · have d_10 := iLt c_9
      unfold fTape_takeNumber_35
      have l_11 : (4 : Int32).toInt = 4 := rfl
      refine y_Tape_refuse hok hw ra (by omega) hR (fun I_15 L_16 hR_17 fr_18 u_13 u_14 => ⟨I_15, L_16, rfl, rfl, ?_⟩)
      have hf_19 : Fm (fun c => c = o) I0 I_15 := hf.call fr_18 (fun c hc => by first | exact hc | (dsimp only at hc ⊢; omega) | omega)
      have l_20 : (-1 : Int32).toInt = -1 := rfl
      exact (hp _ _ _ hR_17 hf_19 (by omega) (by omega) (by omega))
    · have d_21 := iNlt c_9
      refine ⟨fun c_22 => ?_, fun c_22 => ?_⟩
      · have d_23 := iLe c_22
        refine y_Tape_step hok hw ra hR (fun I_26 L_27 hR_28 fr_29 u_25 => ⟨I_26, L_27, rfl, rfl, ?_⟩)
        have hf_30 : Fm (fun c => c = o) I0 I_26 := hf.call fr_29 (fun c hc => by first | exact hc | (dsimp only at hc ⊢; omega) | omega)
        exact (hp _ _ _ hR_28 hf_30 (by omega) (by omega) (by omega))
      · have d_31 := iNle c_22
        unfold fTape_takeNumber_35
        have l_32 : (4 : Int32).toInt = 4 := rfl
        refine y_Tape_refuse hok hw ra (by omega) hR (fun I_36 L_37 hR_38 fr_39 u_34 u_35 => ⟨I_36, L_37, rfl, rfl, ?_⟩)
        have hf_40 : Fm (fun c => c = o) I0 I_36 := hf.call fr_39 (fun c hc => by first | exact hc | (dsimp only at hc ⊢; omega) | omega)
        have l_41 : (-1 : Int32).toInt = -1 := rfl
        exact (hp _ _ _ hR_38 hf_40 (by omega) (by omega) (by omega))
  · have d_42 := iEq c_7
    have l_43 : (2 : Int32).toInt = 2 := rfl
    refine y_Tape_refuse hok hw ra (by omega) hR (fun I_47 L_48 hR_49 fr_50 u_45 u_46 => ⟨I_47, L_48, rfl, rfl, ?_⟩)
    have hf_51 : Fm (fun c => c = o) I0 I_47 := hf.call fr_50 (fun c hc => by first | exact hc | (dsimp only at hc ⊢; omega) | omega)
    have l_52 : (-1 : Int32).toInt = -1 := rfl
    exact (hp _ _ _ hR_49 hf_51 (by omega) (by omega) (by omega))
set_option maxHeartbeats 4000000 in
set_option maxRecDepth 20000 in
theorem y_Tape_takeNumberBehind {D : va_G} {cA : FieldType → ClassId} {b : Nat} {E : State → Prop} {R : qRg} {o n : Nat} {sh : Nat → qC} {Rf : Nat → Nat → Option Nat} {I0 : Nat → Nat → Int32} {L0 : Nat → Nat → Int64} {post : Option Value → qS → Prop} {p1 : Int32} {p2 : Int32} {p3 : Int32} (hok : q_ok (qGG D cA b E)) (hw : WfTape (qGG D cA b E) n sh Rf o) (ra : RATape R o) (hq0 : (0 : Int) ≤ p2.toInt ∧ p2.toInt ≤ 9999) (hq1 : (0 : Int) ≤ p3.toInt ∧ p3.toInt ≤ 9999) (hR : RI R I0) (hp : ∀ (r : Int32) (I' : Nat → Nat → Int32) (L' : Nat → Nat → Int64), RI R I' → Fm (fun c => c = o) I0 I' → (((-1 : Int) ≤ r.toInt ∧ r.toInt ≤ 9999)) → ((I0 o 7).toInt ≤ (I' o 7).toInt) → (r.toInt ≤ p3.toInt) → post (some (.int r)) (n, sh, Rf, I', L')) : Ev (qGG D cA b E) mTape_takeNumberBehind 2 (0, 0) 0 (lv_args 0 [.ref o, .int p1, .int p2, .int p3]) [] (n, sh, Rf, I0, L0) post := by
  have hf : Fm (fun c => c = o) I0 I0 := Fm.rf
  refine sTape_takeNumberBehind_0 o n sh Rf I0 L0 post p1 p2 p3 hok hw ?_
  unfold fTape_takeNumberBehind_0
  refine y_Tape_isWord hok hw ra hR (fun r_1 u_2 => ⟨r_1, I0, L0, rfl, rfl, ?_⟩)
  have b_3 : 0 ≤ r_1.toInt ∧ r_1.toInt ≤ 1 := u_2.rg
  refine y_Tape_passIf hok hw ra hR (fun I_6 L_7 hR_8 fr_9 u_5 => ⟨I_6, L_7, rfl, rfl, ?_⟩)
  have hf_10 : Fm (fun c => c = o) I0 I_6 := hf.call fr_9 (fun c hc => by first | exact hc | (dsimp only at hc ⊢; omega) | omega)
  refine y_Tape_takeNumber hok hw ra (by omega) (by omega) hR_8 (fun r_11 I_15 L_16 hR_17 fr_18 u_12 u_13 u_14 => ⟨r_11, I_15, L_16, rfl, rfl, ?_⟩)
  have hf_19 : Fm (fun c => c = o) I0 I_15 := hf_10.call fr_18 (fun c hc => by first | exact hc | (dsimp only at hc ⊢; omega) | omega)
  exact (hp _ _ _ hR_17 hf_19 (by omega) (by omega) (by omega))
set_option maxHeartbeats 4000000 in
set_option maxRecDepth 20000 in
theorem y_Tape_takePlaceUnlike {D : va_G} {cA : FieldType → ClassId} {b : Nat} {E : State → Prop} {R : qRg} {o n : Nat} {sh : Nat → qC} {Rf : Nat → Nat → Option Nat} {I0 : Nat → Nat → Int32} {L0 : Nat → Nat → Int64} {post : Option Value → qS → Prop} {p1 : Int32} (hok : q_ok (qGG D cA b E)) (hw : WfTape (qGG D cA b E) n sh Rf o) (ra : RATape R o) (hq0 : TokOK I0 o) (hR : RI R I0) (hp : ∀ (r : Int32) (I' : Nat → Nat → Int32) (L' : Nat → Nat → Int64), RI R I' → Fm (fun c => c = o) I0 I' → (((-1 : Int) ≤ r.toInt ∧ r.toInt ≤ 15)) → ((I0 o 7).toInt ≤ (I' o 7).toInt) → (0 ≤ r.toInt + (I' o 7).toInt) → post (some (.int r)) (n, sh, Rf, I', L')) : Ev (qGG D cA b E) mTape_takePlaceUnlike 1 (0, 0) 0 (lv_args 0 [.ref o, .int p1]) [] (n, sh, Rf, I0, L0) post := by
  have hf : Fm (fun c => c = o) I0 I0 := Fm.rf
  refine sTape_takePlaceUnlike_0 o n sh Rf I0 L0 post p1 hok hw ?_
  unfold fTape_takePlaceUnlike_0
  have tk := (hq0 (I0 o 10).toNatClampNeg).2
  have g_1 : (0 : Int) ≤ (I0 o 10).toInt ∧ (I0 o 10).toInt ≤ 1600 := hR.at0 ra 10 (by decide)
  refine ⟨tIn (by omega) (by omega), ?_⟩
  have g_2 : (0 : Int) ≤ (I0 o 7).toInt ∧ (I0 o 7).toInt ≤ 5 := hR.at0 ra 7 (by decide)
  have l_3 : (0 : Int32).toInt = 0 := rfl
  refine ⟨fun c_4 => ?_, fun c_4 => ?_⟩
  · have d_5 := iNe c_4
    unfold fTape_takePlaceUnlike_30
    have l_6 : (2 : Int32).toInt = 2 := rfl
    refine y_Tape_refuse hok hw ra (by omega) hR (fun I_10 L_11 hR_12 fr_13 u_8 u_9 => ⟨I_10, L_11, rfl, rfl, ?_⟩)
    have hf_14 : Fm (fun c => c = o) I0 I_10 := hf.call fr_13 (fun c hc => by first | exact hc | (dsimp only at hc ⊢; omega) | omega)
    have k_15 : TokOK I_10 o := hq0.fr (fr_13 _ (by first | omega | (dsimp only; omega))) (fr_13 _ (by first | omega | (dsimp only; omega)))
    have l_16 : (-1 : Int32).toInt = -1 := rfl
    exact (hp _ _ _ hR_12 hf_14 (by omega) (by omega) (by omega))
  · have d_17 := iEq c_4
    have g_18 : (0 : Int) ≤ (I0 o 10).toInt ∧ (I0 o 10).toInt ≤ 1600 := hR.at0 ra 10 (by decide)
    refine ⟨tIn (by omega) (by omega), ?_⟩
    have l_19 : (3 : Int32).toInt = 3 := rfl
    refine ⟨fun c_20 => ?_, fun c_20 => ?_⟩
    · have d_21 := iEq c_20
      refine ⟨fun c_22 => ?_, fun c_22 => ?_⟩
      · have d_23 := iNe c_22
        refine y_Tape_step hok hw ra hR (fun I_26 L_27 hR_28 fr_29 u_25 => ⟨I_26, L_27, rfl, rfl, ?_⟩)
        have hf_30 : Fm (fun c => c = o) I0 I_26 := hf.call fr_29 (fun c hc => by first | exact hc | (dsimp only at hc ⊢; omega) | omega)
        have k_31 : TokOK I_26 o := hq0.fr (fr_29 _ (by first | omega | (dsimp only; omega))) (fr_29 _ (by first | omega | (dsimp only; omega)))
        exact (hp _ _ _ hR_28 hf_30 (by omega) (by omega) (by omega))
      · have d_32 := iEq c_22
        have l_33 : (4 : Int32).toInt = 4 := rfl
        refine y_Tape_refuse hok hw ra (by omega) hR (fun I_37 L_38 hR_39 fr_40 u_35 u_36 => ⟨I_37, L_38, rfl, rfl, ?_⟩)
        have hf_41 : Fm (fun c => c = o) I0 I_37 := hf.call fr_40 (fun c hc => by first | exact hc | (dsimp only at hc ⊢; omega) | omega)
        have k_42 : TokOK I_37 o := hq0.fr (fr_40 _ (by first | omega | (dsimp only; omega))) (fr_40 _ (by first | omega | (dsimp only; omega)))
        have l_43 : (-1 : Int32).toInt = -1 := rfl
        exact (hp _ _ _ hR_39 hf_41 (by omega) (by omega) (by omega))
    · have d_44 := iNe c_20
      unfold fTape_takePlaceUnlike_30
      have l_45 : (2 : Int32).toInt = 2 := rfl
      refine y_Tape_refuse hok hw ra (by omega) hR (fun I_49 L_50 hR_51 fr_52 u_47 u_48 => ⟨I_49, L_50, rfl, rfl, ?_⟩)
      have hf_53 : Fm (fun c => c = o) I0 I_49 := hf.call fr_52 (fun c hc => by first | exact hc | (dsimp only at hc ⊢; omega) | omega)
      have k_54 : TokOK I_49 o := hq0.fr (fr_52 _ (by first | omega | (dsimp only; omega))) (fr_52 _ (by first | omega | (dsimp only; omega)))
      have l_55 : (-1 : Int32).toInt = -1 := rfl
      exact (hp _ _ _ hR_51 hf_53 (by omega) (by omega) (by omega))
set_option maxHeartbeats 4000000 in
set_option maxRecDepth 20000 in
theorem yTape_append_3 {D : va_G} {cA : FieldType → ClassId} {b : Nat} {E : State → Prop} {R : qRg} {o n : Nat} {sh : Nat → qC} {Rf : Nat → Nat → Option Nat} {I0 : Nat → Nat → Int32} {L0 : Nat → Nat → Int64} {post : Option Value → qS → Prop} {p1 : Int32} (hok : q_ok (qGG D cA b E)) (hw : WfTape (qGG D cA b E) n sh Rf o) (ra : RATape R o) (hp : ∀ (I' : Nat → Nat → Int32) (L' : Nat → Nat → Int64), RI R I' → Fm (fun c => (o ≤ c ∧ c < o + 7)) I0 I' → post none (n, sh, Rf, I', L')) : ∀ (k : Nat) {x1 : Int32} {x2 : Int32} {I : Nat → Nat → Int32} {L : Nat → Nat → Int64}, RI R I → Fm (fun c => (o ≤ c ∧ c < o + 7)) I0 I → ((-8 : Int) ≤ x2.toInt ∧ x2.toInt ≤ 24) → (x2.toInt + 8).toNat < k → Ev (qGG D cA b E) mTape_append 0 (0, 0) 3 [(0, .ref o), (1, .int x1), (2, .int x2)] [] (n, sh, Rf, I, L) post := by
  intro k
  induction k with
  | zero =>
    intro x1 x2 I L hR hf hi0 hm
    exact absurd hm (Nat.not_lt_zero _)
  | succ k ih =>
    intro x1 x2 I L hR hf hi0 hm
    refine sTape_append_3 o n sh Rf I L post x1 x2 hok hw ?_
    unfold fTape_append_3
    have l_1 : (0 : Int32).toInt = 0 := rfl
    refine ⟨fun c_2 => ?_, fun c_2 => ?_⟩
    · have d_3 := iLt c_2
      exact (hp _ _ hR hf )
    · have d_4 := iNlt c_2
      have g_5 : (0 : Int) ≤ (I o 6).toInt ∧ (I o 6).toInt ≤ 1600 := hR.at0 ra 6 (by decide)
      have l_6 : (1600 : Int32).toInt = 1600 := rfl
      refine ⟨fun c_7 => ?_, fun c_7 => ?_⟩
      · have d_8 := iLe c_7
        exact (hp _ _ hR hf )
      · have d_9 := iNle c_7
        have g_10 : (0 : Int) ≤ (I o 6).toInt ∧ (I o 6).toInt ≤ 1600 := hR.at0 ra 6 (by decide)
        refine ⟨tIn (by omega) (by omega), fun I_11 e_12 => ?_⟩
        have hR_13 : RI R I_11 := hR.up ra 1 (by decide) e_12 (i_lo _) (i_hi _)
        have hf_14 : Fm (fun c => (o ≤ c ∧ c < o + 7)) I0 I_11 := hf.set (by first | rfl | omega | (dsimp only; omega)) e_12
        have t_15 : (I_11 o 6).toInt = (I o 6).toInt := by rw [← e_12, q_u_ne (by omega)]
        have g_16 : (0 : Int) ≤ (I_11 o 6).toInt ∧ (I_11 o 6).toInt ≤ 1600 := hR_13.at0 ra 6 (by decide)
        have l_17 : (1 : Int32).toInt = 1 := rfl
        have a_18 : ((I_11 o 6) + 1).toInt = (I_11 o 6).toInt + (1 : Int32).toInt := tAdd (by omega) (by omega)
        refine fun I_19 e_20 => ?_
        have hR_21 : RI R I_19 := hR_13.up0 ra (by decide) e_20 (show (0 : Int) ≤ ((I_11 o 6) + 1).toInt by omega) (show ((I_11 o 6) + 1).toInt ≤ (1600 : Int) by omega)
        have hf_22 : Fm (fun c => (o ≤ c ∧ c < o + 7)) I0 I_19 := hf_14.set (by first | rfl | omega | (dsimp only; omega)) e_20
        have t_23 : (I_19 o 6).toInt = ((I_11 o 6) + 1).toInt := by rw [← e_20, q_u_at]
        have a_25 : (x2 + Int32.ofInt (-8)).toInt = x2.toInt + (-8) := tIc (by omega) (by omega) (by decide) (by decide)
        generalize (x2 + Int32.ofInt (-8)) = z_24 at a_25 ⊢
        exact ih hR_21 hf_22 (by omega) (by omega)
set_option maxHeartbeats 4000000 in
set_option maxRecDepth 20000 in
theorem y_Tape_append {D : va_G} {cA : FieldType → ClassId} {b : Nat} {E : State → Prop} {R : qRg} {o n : Nat} {sh : Nat → qC} {Rf : Nat → Nat → Option Nat} {I0 : Nat → Nat → Int32} {L0 : Nat → Nat → Int64} {post : Option Value → qS → Prop} {p1 : Int32} (hok : q_ok (qGG D cA b E)) (hw : WfTape (qGG D cA b E) n sh Rf o) (ra : RATape R o) (hR : RI R I0) (hp : ∀ (I' : Nat → Nat → Int32) (L' : Nat → Nat → Int64), RI R I' → Fm (fun c => (o ≤ c ∧ c < o + 7)) I0 I' → post none (n, sh, Rf, I', L')) : Ev (qGG D cA b E) mTape_append 0 (0, 0) 0 (lv_args 0 [.ref o, .int p1]) [] (n, sh, Rf, I0, L0) post := by
  have hf : Fm (fun c => (o ≤ c ∧ c < o + 7)) I0 I0 := Fm.rf
  refine sTape_append_0 o n sh Rf I0 L0 post p1 hok hw ?_
  unfold fTape_append_0
  have l_26 : (24 : Int32).toInt = 24 := rfl
  exact yTape_append_3 (I0 := I0) (L0 := L0) (p1 := p1) hok hw ra hp  _ hR hf (by omega) (Nat.lt_succ_self _)
