/-! Walks of the class: by program. -/
def fTape_isWord_0 (D : va_G) (cA : FieldType → ClassId) (b : Nat) (E : State → Prop) (o : Nat) (n : Nat) (sh : Nat → qC) (Rf : Nat → Nat → Option Nat) (I : Nat → Nat → Int32) (L : Nat → Nat → Int64) (post : Option Value → qS → Prop) (x1 : Int32) : Prop :=
  ((¬ (I o 7) = 0 → post (some (.int 0)) (n, sh, Rf, I, L)) ∧ ((I o 7) = 0 → vp_in (I o 10) 1601 ∧ ((¬ (I (o + 3) ((I o 10) : Int32).toNatClampNeg) = 1 → post (some (.int 0)) (n, sh, Rf, I, L)) ∧ ((I (o + 3) ((I o 10) : Int32).toNatClampNeg) = 1 → vp_in (I o 10) 1601 ∧ ((¬ (I (o + 5) ((I o 10) : Int32).toNatClampNeg) = x1 → post (some (.int 0)) (n, sh, Rf, I, L)) ∧ ((I (o + 5) ((I o 10) : Int32).toNatClampNeg) = x1 → post (some (.int 1)) (n, sh, Rf, I, L)))))))
set_option maxHeartbeats 4000000 in
set_option maxRecDepth 20000 in
theorem sTape_isWord_0 {D : va_G} {cA : FieldType → ClassId} {b : Nat} {E : State → Prop} (o : Nat) (n : Nat) (sh : Nat → qC) (Rf : Nat → Nat → Option Nat) (I : Nat → Nat → Int32) (L : Nat → Nat → Int64) (post : Option Value → qS → Prop) (x1 : Int32) (hok : q_ok (qGG D cA b E)) (hw : WfTape (qGG D cA b E) n sh Rf o) (H : fTape_isWord_0 D cA b E o n sh Rf I L post x1) : Ev (qGG D cA b E) mTape_isWord 0 (0, 0) 0 [(0, .ref o), (1, .int x1)] [] (n, sh, Rf, I, L) post := by
  unfold fTape_isWord_0 at H
  refine ev_aload_n dTape_isWord_0 rfl ?_
  refine ev_getI hok fk_Tape_35 (woTape hw) (fun _ _ _ => rfl) dTape_isWord_1 ?_
  refine ev_if_ne 37 dTape_isWord_4 (by decide) (fun c1 => ?_) (fun c1 => ?_)
  · have H := H.1 c1
    refine ev_iconst (0) dTape_isWord_37 (by decide) ?_
    exact ev_zret rfl (by decide) dTape_isWord_38 H
  · have H := H.2 c1
    refine ev_aload_n dTape_isWord_7 rfl ?_
    refine ev_getR hok fk_Tape_19 (woTape hw) (fun _ _ _ => rfl) (wrTape_2 hw) dTape_isWord_8 ?_
    refine ev_aload_n dTape_isWord_11 rfl ?_
    refine ev_getI hok fk_Tape_45 (woTape hw) (fun _ _ _ => rfl) dTape_isWord_12 ?_
    obtain ⟨h2, H⟩ := H
    refine ev_iald hok (waTape_2 hw) h2 dTape_isWord_15 ?_
    refine ev_iconst (1) dTape_isWord_16 (by decide) ?_
    refine ev_icmp_ne 37 dTape_isWord_17 (by decide) (fun c3 => ?_) (fun c3 => ?_)
    · have H := H.1 c3
      refine ev_iconst (0) dTape_isWord_37 (by decide) ?_
      exact ev_zret rfl (by decide) dTape_isWord_38 H
    · have H := H.2 c3
      refine ev_aload_n dTape_isWord_20 rfl ?_
      refine ev_getR hok fk_Tape_25 (woTape hw) (fun _ _ _ => rfl) (wrTape_4 hw) dTape_isWord_21 ?_
      refine ev_aload_n dTape_isWord_24 rfl ?_
      refine ev_getI hok fk_Tape_45 (woTape hw) (fun _ _ _ => rfl) dTape_isWord_25 ?_
      obtain ⟨h4, H⟩ := H
      refine ev_iald hok (waTape_4 hw) h4 dTape_isWord_28 ?_
      refine ev_iload_n dTape_isWord_29 rfl ?_
      refine ev_icmp_ne 37 dTape_isWord_30 (by decide) (fun c5 => ?_) (fun c5 => ?_)
      · have H := H.1 c5
        refine ev_iconst (0) dTape_isWord_37 (by decide) ?_
        exact ev_zret rfl (by decide) dTape_isWord_38 H
      · have H := H.2 c5
        refine ev_iconst (1) dTape_isWord_33 (by decide) ?_
        refine ev_goto 38 dTape_isWord_34 (by decide) ?_
        exact ev_zret rfl (by decide) dTape_isWord_38 H
def fTape_kind_0 (D : va_G) (cA : FieldType → ClassId) (b : Nat) (E : State → Prop) (o : Nat) (n : Nat) (sh : Nat → qC) (Rf : Nat → Nat → Option Nat) (I : Nat → Nat → Int32) (L : Nat → Nat → Int64) (post : Option Value → qS → Prop)  : Prop :=
  vp_in (I o 10) 1601 ∧ post (some (.int ((I (o + 3) ((I o 10) : Int32).toNatClampNeg)))) (n, sh, Rf, I, L)
set_option maxHeartbeats 4000000 in
set_option maxRecDepth 20000 in
theorem sTape_kind_0 {D : va_G} {cA : FieldType → ClassId} {b : Nat} {E : State → Prop} (o : Nat) (n : Nat) (sh : Nat → qC) (Rf : Nat → Nat → Option Nat) (I : Nat → Nat → Int32) (L : Nat → Nat → Int64) (post : Option Value → qS → Prop)  (hok : q_ok (qGG D cA b E)) (hw : WfTape (qGG D cA b E) n sh Rf o) (H : fTape_kind_0 D cA b E o n sh Rf I L post ) : Ev (qGG D cA b E) mTape_kind 0 (0, 0) 0 [(0, .ref o)] [] (n, sh, Rf, I, L) post := by
  unfold fTape_kind_0 at H
  refine ev_aload_n dTape_kind_0 rfl ?_
  refine ev_getR hok fk_Tape_19 (woTape hw) (fun _ _ _ => rfl) (wrTape_2 hw) dTape_kind_1 ?_
  refine ev_aload_n dTape_kind_4 rfl ?_
  refine ev_getI hok fk_Tape_45 (woTape hw) (fun _ _ _ => rfl) dTape_kind_5 ?_
  obtain ⟨h1, H⟩ := H
  refine ev_iald hok (waTape_2 hw) h1 dTape_kind_8 ?_
  exact ev_iret rfl dTape_kind_9 H
def fTape_name_0 (D : va_G) (cA : FieldType → ClassId) (b : Nat) (E : State → Prop) (o : Nat) (n : Nat) (sh : Nat → qC) (Rf : Nat → Nat → Option Nat) (I : Nat → Nat → Int32) (L : Nat → Nat → Int64) (post : Option Value → qS → Prop)  : Prop :=
  vp_in (I o 10) 1601 ∧ post (some (.long ((L (o + 6) ((I o 10) : Int32).toNatClampNeg)))) (n, sh, Rf, I, L)
set_option maxHeartbeats 4000000 in
set_option maxRecDepth 20000 in
theorem sTape_name_0 {D : va_G} {cA : FieldType → ClassId} {b : Nat} {E : State → Prop} (o : Nat) (n : Nat) (sh : Nat → qC) (Rf : Nat → Nat → Option Nat) (I : Nat → Nat → Int32) (L : Nat → Nat → Int64) (post : Option Value → qS → Prop)  (hok : q_ok (qGG D cA b E)) (hw : WfTape (qGG D cA b E) n sh Rf o) (H : fTape_name_0 D cA b E o n sh Rf I L post ) : Ev (qGG D cA b E) mTape_name 0 (0, 0) 0 [(0, .ref o)] [] (n, sh, Rf, I, L) post := by
  unfold fTape_name_0 at H
  refine ev_aload_n dTape_name_0 rfl ?_
  refine ev_getR hok fk_Tape_28 (woTape hw) (fun _ _ _ => rfl) (wrTape_5 hw) dTape_name_1 ?_
  refine ev_aload_n dTape_name_4 rfl ?_
  refine ev_getI hok fk_Tape_45 (woTape hw) (fun _ _ _ => rfl) dTape_name_5 ?_
  obtain ⟨h1, H⟩ := H
  refine ev_lald hok (waTape_5 hw) h1 dTape_name_8 ?_
  exact ev_lret rfl dTape_name_9 H
def fTape_refuse_26 (D : va_G) (cA : FieldType → ClassId) (b : Nat) (E : State → Prop) (o : Nat) (n : Nat) (sh : Nat → qC) (Rf : Nat → Nat → Option Nat) (I : Nat → Nat → Int32) (L : Nat → Nat → Int64) (post : Option Value → qS → Prop) (x1 : Int32) (z0 : Int32) : Prop :=
  ∀ I1 : Nat → Nat → Int32, q_u I o 7 z0 = I1 → vp_in (I1 o 10) 1601 ∧ ∀ I3 : Nat → Nat → Int32, q_u I1 o 8 (I1 (o + 4) ((I1 o 10) : Int32).toNatClampNeg) = I3 → post none (n, sh, Rf, I3, L)
set_option maxHeartbeats 4000000 in
set_option maxRecDepth 20000 in
theorem sTape_refuse_26 {D : va_G} {cA : FieldType → ClassId} {b : Nat} {E : State → Prop} (o : Nat) (n : Nat) (sh : Nat → qC) (Rf : Nat → Nat → Option Nat) (I : Nat → Nat → Int32) (L : Nat → Nat → Int64) (post : Option Value → qS → Prop) (x1 : Int32) (z0 : Int32) (hok : q_ok (qGG D cA b E)) (hw : WfTape (qGG D cA b E) n sh Rf o) (H : fTape_refuse_26 D cA b E o n sh Rf I L post x1 z0) : Ev (qGG D cA b E) mTape_refuse 0 (0, 0) 26 [(0, .ref o), (1, .int x1)] [.int z0, .ref o] (n, sh, Rf, I, L) post := by
  unfold fTape_refuse_26 at H
  refine ev_putI hok fk_Tape_35 (woTape hw) (fun _ _ _ => rfl) rfl rfl dTape_refuse_26 ?_
  generalize eI1 : q_u I o 7 z0 = I1
  have H := H I1 eI1
  refine ev_aload_n dTape_refuse_29 rfl ?_
  refine ev_aload_n dTape_refuse_30 rfl ?_
  refine ev_getR hok fk_Tape_22 (woTape hw) (fun _ _ _ => rfl) (wrTape_3 hw) dTape_refuse_31 ?_
  refine ev_aload_n dTape_refuse_34 rfl ?_
  refine ev_getI hok fk_Tape_45 (woTape hw) (fun _ _ _ => rfl) dTape_refuse_35 ?_
  obtain ⟨h2, H⟩ := H
  refine ev_iald hok (waTape_3 hw) h2 dTape_refuse_38 ?_
  refine ev_putI hok fk_Tape_38 (woTape hw) (fun _ _ _ => rfl) rfl rfl dTape_refuse_39 ?_
  generalize eI3 : q_u I1 o 8 (I1 (o + 4) ((I1 o 10) : Int32).toNatClampNeg) = I3
  have H := H I3 eI3
  exact ev_vret rfl dTape_refuse_42 H
def fTape_refuse_0 (D : va_G) (cA : FieldType → ClassId) (b : Nat) (E : State → Prop) (o : Nat) (n : Nat) (sh : Nat → qC) (Rf : Nat → Nat → Option Nat) (I : Nat → Nat → Int32) (L : Nat → Nat → Int64) (post : Option Value → qS → Prop) (x1 : Int32) : Prop :=
  ((¬ (I o 7) = 0 → post none (n, sh, Rf, I, L)) ∧ ((I o 7) = 0 → vp_in (I o 10) 1601 ∧ ((¬ (I (o + 3) ((I o 10) : Int32).toNatClampNeg) = 5 → fTape_refuse_26 D cA b E o n sh Rf I L post x1 x1) ∧ ((I (o + 3) ((I o 10) : Int32).toNatClampNeg) = 5 → fTape_refuse_26 D cA b E o n sh Rf I L post x1 1))))
set_option maxHeartbeats 4000000 in
set_option maxRecDepth 20000 in
theorem sTape_refuse_0 {D : va_G} {cA : FieldType → ClassId} {b : Nat} {E : State → Prop} (o : Nat) (n : Nat) (sh : Nat → qC) (Rf : Nat → Nat → Option Nat) (I : Nat → Nat → Int32) (L : Nat → Nat → Int64) (post : Option Value → qS → Prop) (x1 : Int32) (hok : q_ok (qGG D cA b E)) (hw : WfTape (qGG D cA b E) n sh Rf o) (H : fTape_refuse_0 D cA b E o n sh Rf I L post x1) : Ev (qGG D cA b E) mTape_refuse 0 (0, 0) 0 [(0, .ref o), (1, .int x1)] [] (n, sh, Rf, I, L) post := by
  unfold fTape_refuse_0 at H
  refine ev_aload_n dTape_refuse_0 rfl ?_
  refine ev_getI hok fk_Tape_35 (woTape hw) (fun _ _ _ => rfl) dTape_refuse_1 ?_
  refine ev_if_ne 42 dTape_refuse_4 (by decide) (fun c1 => ?_) (fun c1 => ?_)
  · have H := H.1 c1
    exact ev_vret rfl dTape_refuse_42 H
  · have H := H.2 c1
    refine ev_aload_n dTape_refuse_7 rfl ?_
    refine ev_aload_n dTape_refuse_8 rfl ?_
    refine ev_getR hok fk_Tape_19 (woTape hw) (fun _ _ _ => rfl) (wrTape_2 hw) dTape_refuse_9 ?_
    refine ev_aload_n dTape_refuse_12 rfl ?_
    refine ev_getI hok fk_Tape_45 (woTape hw) (fun _ _ _ => rfl) dTape_refuse_13 ?_
    obtain ⟨h2, H⟩ := H
    refine ev_iald hok (waTape_2 hw) h2 dTape_refuse_16 ?_
    refine ev_iconst (5) dTape_refuse_17 (by decide) ?_
    refine ev_icmp_ne 25 dTape_refuse_18 (by decide) (fun c3 => ?_) (fun c3 => ?_)
    · have H := H.1 c3
      refine ev_iload_n dTape_refuse_25 rfl ?_
      exact ev_sub [(0, .ref o), (1, .int x1)] rfl (sTape_refuse_26 o n sh Rf I L post x1 x1 hok hw H)
    · have H := H.2 c3
      refine ev_iconst (1) dTape_refuse_21 (by decide) ?_
      refine ev_goto 26 dTape_refuse_22 (by decide) ?_
      exact ev_sub [(0, .ref o), (1, .int x1)] rfl (sTape_refuse_26 o n sh Rf I L post x1 1 hok hw H)
def fTape_step_0 (D : va_G) (cA : FieldType → ClassId) (b : Nat) (E : State → Prop) (o : Nat) (n : Nat) (sh : Nat → qC) (Rf : Nat → Nat → Option Nat) (I : Nat → Nat → Int32) (L : Nat → Nat → Int64) (post : Option Value → qS → Prop)  : Prop :=
  vp_in (I o 10) 1601 ∧ (((I (o + 3) ((I o 10) : Int32).toNatClampNeg) = 0 → post none (n, sh, Rf, I, L)) ∧ (¬ (I (o + 3) ((I o 10) : Int32).toNatClampNeg) = 0 → vp_in (I o 10) 1601 ∧ (((I (o + 3) ((I o 10) : Int32).toNatClampNeg) = 5 → post none (n, sh, Rf, I, L)) ∧ (¬ (I (o + 3) ((I o 10) : Int32).toNatClampNeg) = 5 → ((1600 ≤ (I o 10) → post none (n, sh, Rf, I, L)) ∧ (¬ 1600 ≤ (I o 10) → ∀ I6 : Nat → Nat → Int32, q_u I o 10 ((I o 10) + 1) = I6 → post none (n, sh, Rf, I6, L)))))))
set_option maxHeartbeats 4000000 in
set_option maxRecDepth 20000 in
theorem sTape_step_0 {D : va_G} {cA : FieldType → ClassId} {b : Nat} {E : State → Prop} (o : Nat) (n : Nat) (sh : Nat → qC) (Rf : Nat → Nat → Option Nat) (I : Nat → Nat → Int32) (L : Nat → Nat → Int64) (post : Option Value → qS → Prop)  (hok : q_ok (qGG D cA b E)) (hw : WfTape (qGG D cA b E) n sh Rf o) (H : fTape_step_0 D cA b E o n sh Rf I L post ) : Ev (qGG D cA b E) mTape_step 0 (0, 0) 0 [(0, .ref o)] [] (n, sh, Rf, I, L) post := by
  unfold fTape_step_0 at H
  refine ev_aload_n dTape_step_0 rfl ?_
  refine ev_getR hok fk_Tape_19 (woTape hw) (fun _ _ _ => rfl) (wrTape_2 hw) dTape_step_1 ?_
  refine ev_aload_n dTape_step_4 rfl ?_
  refine ev_getI hok fk_Tape_45 (woTape hw) (fun _ _ _ => rfl) dTape_step_5 ?_
  obtain ⟨h1, H⟩ := H
  refine ev_iald hok (waTape_2 hw) h1 dTape_step_8 ?_
  refine ev_if_eq 45 dTape_step_9 (by decide) (fun c2 => ?_) (fun c2 => ?_)
  · have H := H.1 c2
    exact ev_vret rfl dTape_step_45 H
  · have H := H.2 c2
    refine ev_aload_n dTape_step_12 rfl ?_
    refine ev_getR hok fk_Tape_19 (woTape hw) (fun _ _ _ => rfl) (wrTape_2 hw) dTape_step_13 ?_
    refine ev_aload_n dTape_step_16 rfl ?_
    refine ev_getI hok fk_Tape_45 (woTape hw) (fun _ _ _ => rfl) dTape_step_17 ?_
    obtain ⟨h3, H⟩ := H
    refine ev_iald hok (waTape_2 hw) h3 dTape_step_20 ?_
    refine ev_iconst (5) dTape_step_21 (by decide) ?_
    refine ev_icmp_eq 45 dTape_step_22 (by decide) (fun c4 => ?_) (fun c4 => ?_)
    · have H := H.1 c4
      exact ev_vret rfl dTape_step_45 H
    · have H := H.2 c4
      refine ev_aload_n dTape_step_25 rfl ?_
      refine ev_getI hok fk_Tape_45 (woTape hw) (fun _ _ _ => rfl) dTape_step_26 ?_
      refine ev_sipush (1600) dTape_step_29 (by decide) ?_
      refine ev_icmp_ge 45 dTape_step_32 (by decide) (fun c5 => ?_) (fun c5 => ?_)
      · have H := H.1 c5
        exact ev_vret rfl dTape_step_45 H
      · have H := H.2 c5
        refine ev_aload_n dTape_step_35 rfl ?_
        refine ev_dup dTape_step_36 rfl ?_
        refine ev_getI hok fk_Tape_45 (woTape hw) (fun _ _ _ => rfl) dTape_step_37 ?_
        refine ev_iconst (1) dTape_step_40 (by decide) ?_
        refine ev_iadd dTape_step_41 ?_
        refine ev_putI hok fk_Tape_45 (woTape hw) (fun _ _ _ => rfl) rfl rfl dTape_step_42 ?_
        generalize eI6 : q_u I o 10 ((I o 10) + 1) = I6
        have H := H I6 eI6
        exact ev_vret rfl dTape_step_45 H
def fTape_value_0 (D : va_G) (cA : FieldType → ClassId) (b : Nat) (E : State → Prop) (o : Nat) (n : Nat) (sh : Nat → qC) (Rf : Nat → Nat → Option Nat) (I : Nat → Nat → Int32) (L : Nat → Nat → Int64) (post : Option Value → qS → Prop)  : Prop :=
  vp_in (I o 10) 1601 ∧ post (some (.int ((I (o + 5) ((I o 10) : Int32).toNatClampNeg)))) (n, sh, Rf, I, L)
set_option maxHeartbeats 4000000 in
set_option maxRecDepth 20000 in
theorem sTape_value_0 {D : va_G} {cA : FieldType → ClassId} {b : Nat} {E : State → Prop} (o : Nat) (n : Nat) (sh : Nat → qC) (Rf : Nat → Nat → Option Nat) (I : Nat → Nat → Int32) (L : Nat → Nat → Int64) (post : Option Value → qS → Prop)  (hok : q_ok (qGG D cA b E)) (hw : WfTape (qGG D cA b E) n sh Rf o) (H : fTape_value_0 D cA b E o n sh Rf I L post ) : Ev (qGG D cA b E) mTape_value 0 (0, 0) 0 [(0, .ref o)] [] (n, sh, Rf, I, L) post := by
  unfold fTape_value_0 at H
  refine ev_aload_n dTape_value_0 rfl ?_
  refine ev_getR hok fk_Tape_25 (woTape hw) (fun _ _ _ => rfl) (wrTape_4 hw) dTape_value_1 ?_
  refine ev_aload_n dTape_value_4 rfl ?_
  refine ev_getI hok fk_Tape_45 (woTape hw) (fun _ _ _ => rfl) dTape_value_5 ?_
  obtain ⟨h1, H⟩ := H
  refine ev_iald hok (waTape_4 hw) h1 dTape_value_8 ?_
  exact ev_iret rfl dTape_value_9 H
def fTape_withLetter_0 (D : va_G) (cA : FieldType → ClassId) (b : Nat) (E : State → Prop) (n : Nat) (sh : Nat → qC) (Rf : Nat → Nat → Option Nat) (I : Nat → Nat → Int32) (L : Nat → Nat → Int64) (post : Option Value → qS → Prop) (x0 : Int64) (x2 : Int32) : Prop :=
  post (some (.long (((((x0 * 32) + (x2 : Int32).toInt64) - 97) + 1)))) (n, sh, Rf, I, L)
set_option maxHeartbeats 4000000 in
set_option maxRecDepth 20000 in
theorem sTape_withLetter_0 {D : va_G} {cA : FieldType → ClassId} {b : Nat} {E : State → Prop} (n : Nat) (sh : Nat → qC) (Rf : Nat → Nat → Option Nat) (I : Nat → Nat → Int32) (L : Nat → Nat → Int64) (post : Option Value → qS → Prop) (x0 : Int64) (x2 : Int32) (hok : q_ok (qGG D cA b E)) (H : fTape_withLetter_0 D cA b E n sh Rf I L post x0 x2) : Ev (qGG D cA b E) mTape_withLetter 0 (0, 0) 0 [(0, .long x0), (2, .int x2)] [] (n, sh, Rf, I, L) post := by
  unfold fTape_withLetter_0 at H
  refine ev_lload_n dTape_withLetter_0 rfl ?_
  refine ev_ldc2 (32) dTape_withLetter_1 (q_t1 92 (by decide +kernel) rfl) ?_
  refine ev_lmul dTape_withLetter_4 ?_
  refine ev_iload_n dTape_withLetter_5 rfl ?_
  refine ev_i2l dTape_withLetter_6 ?_
  refine ev_ladd dTape_withLetter_7 ?_
  refine ev_ldc2 (97) dTape_withLetter_8 (q_t1 93 (by decide +kernel) rfl) ?_
  refine ev_lsub dTape_withLetter_11 ?_
  refine ev_lconst 1 dTape_withLetter_12 (by decide) ?_
  refine ev_ladd dTape_withLetter_13 ?_
  exact ev_lret rfl dTape_withLetter_14 H
def fWay_weigh_0 (D : va_G) (cA : FieldType → ClassId) (b : Nat) (E : State → Prop) (o : Nat) (n : Nat) (sh : Nat → qC) (Rf : Nat → Nat → Option Nat) (I : Nat → Nat → Int32) (L : Nat → Nat → Int64) (post : Option Value → qS → Prop) (x1 : Int32) (x2 : Int32) (x3 : Int32) (x4 : Int32) (x5 : Int32) (x6 : Int64) : Prop :=
  ((x4 ≤ 0 → post none (n, sh, Rf, I, L)) ∧ (¬ x4 ≤ 0 → (((lg_cmp x6 (L o 5)) ≤ 0 → post none (n, sh, Rf, I, L)) ∧ (¬ (lg_cmp x6 (L o 5)) ≤ 0 → ∀ I3 : Nat → Nat → Int32, q_u I o 0 x1 = I3 → ∀ I4 : Nat → Nat → Int32, q_u I3 o 1 x2 = I4 → ∀ I5 : Nat → Nat → Int32, q_u I4 o 2 x3 = I5 → ∀ I6 : Nat → Nat → Int32, q_u I5 o 3 x4 = I6 → ∀ I7 : Nat → Nat → Int32, q_u I6 o 4 x5 = I7 → ∀ L8 : Nat → Nat → Int64, q_u L o 5 x6 = L8 → post none (n, sh, Rf, I7, L8)))))
set_option maxHeartbeats 4000000 in
set_option maxRecDepth 20000 in
theorem sWay_weigh_0 {D : va_G} {cA : FieldType → ClassId} {b : Nat} {E : State → Prop} (o : Nat) (n : Nat) (sh : Nat → qC) (Rf : Nat → Nat → Option Nat) (I : Nat → Nat → Int32) (L : Nat → Nat → Int64) (post : Option Value → qS → Prop) (x1 : Int32) (x2 : Int32) (x3 : Int32) (x4 : Int32) (x5 : Int32) (x6 : Int64) (hok : q_ok (qGG D cA b E)) (hw : WfWay (qGG D cA b E) n sh Rf o) (H : fWay_weigh_0 D cA b E o n sh Rf I L post x1 x2 x3 x4 x5 x6) : Ev (qGG D cA b E) mWay_weigh 0 (0, 0) 0 [(0, .ref o), (1, .int x1), (2, .int x2), (3, .int x3), (4, .int x4), (5, .int x5), (6, .long x6)] [] (n, sh, Rf, I, L) post := by
  unfold fWay_weigh_0 at H
  refine ev_iload dWay_weigh_0 rfl ?_
  refine ev_if_le 48 dWay_weigh_2 (by decide) (fun c1 => ?_) (fun c1 => ?_)
  · have H := H.1 c1
    exact ev_vret rfl dWay_weigh_48 H
  · have H := H.2 c1
    refine ev_lload dWay_weigh_5 rfl ?_
    refine ev_aload_n dWay_weigh_7 rfl ?_
    refine ev_getL hok fk_Way_27 (woWay hw) (fun _ _ _ => rfl) dWay_weigh_8 ?_
    refine ev_lcmp dWay_weigh_11 ?_
    refine ev_if_le 48 dWay_weigh_12 (by decide) (fun c2 => ?_) (fun c2 => ?_)
    · have H := H.1 c2
      exact ev_vret rfl dWay_weigh_48 H
    · have H := H.2 c2
      refine ev_aload_n dWay_weigh_15 rfl ?_
      refine ev_iload_n dWay_weigh_16 rfl ?_
      refine ev_putI hok fk_Way_9 (woWay hw) (fun _ _ _ => rfl) rfl rfl dWay_weigh_17 ?_
      generalize eI3 : q_u I o 0 x1 = I3
      have H := H I3 eI3
      refine ev_aload_n dWay_weigh_20 rfl ?_
      refine ev_iload_n dWay_weigh_21 rfl ?_
      refine ev_putI hok fk_Way_15 (woWay hw) (fun _ _ _ => rfl) rfl rfl dWay_weigh_22 ?_
      generalize eI4 : q_u I3 o 1 x2 = I4
      have H := H I4 eI4
      refine ev_aload_n dWay_weigh_25 rfl ?_
      refine ev_iload_n dWay_weigh_26 rfl ?_
      refine ev_putI hok fk_Way_18 (woWay hw) (fun _ _ _ => rfl) rfl rfl dWay_weigh_27 ?_
      generalize eI5 : q_u I4 o 2 x3 = I5
      have H := H I5 eI5
      refine ev_aload_n dWay_weigh_30 rfl ?_
      refine ev_iload dWay_weigh_31 rfl ?_
      refine ev_putI hok fk_Way_21 (woWay hw) (fun _ _ _ => rfl) rfl rfl dWay_weigh_33 ?_
      generalize eI6 : q_u I5 o 3 x4 = I6
      have H := H I6 eI6
      refine ev_aload_n dWay_weigh_36 rfl ?_
      refine ev_iload dWay_weigh_37 rfl ?_
      refine ev_putI hok fk_Way_24 (woWay hw) (fun _ _ _ => rfl) rfl rfl dWay_weigh_39 ?_
      generalize eI7 : q_u I6 o 4 x5 = I7
      have H := H I7 eI7
      refine ev_aload_n dWay_weigh_42 rfl ?_
      refine ev_lload dWay_weigh_43 rfl ?_
      refine ev_putL hok fk_Way_27 (woWay hw) (fun _ _ _ => rfl) rfl rfl dWay_weigh_45 ?_
      generalize eL8 : q_u L o 5 x6 = L8
      have H := H L8 eL8
      exact ev_vret rfl dWay_weigh_48 H
def fFacts_saltByWeather_78 (D : va_G) (cA : FieldType → ClassId) (b : Nat) (E : State → Prop) (o : Nat) (n : Nat) (sh : Nat → qC) (Rf : Nat → Nat → Option Nat) (I : Nat → Nat → Int32) (L : Nat → Nat → Int64) (post : Option Value → qS → Prop) (x1 : Int32) (x2 : Int32) (x3 : Int32) (x4 : Int32) (x5 : Int32) (x6 : Int32) : Prop :=
  Ev (qGG D cA b E) mFacts_saltByWeather 1 (0, 0) 6 [(0, .ref o), (1, .int x1), (2, .int x2), (3, .int x3), (4, .int x4), (5, .int x5), (6, .int ((x6 + Int32.ofInt 1)))] [] (n, sh, Rf, I, L) post
set_option maxHeartbeats 4000000 in
set_option maxRecDepth 20000 in
theorem sFacts_saltByWeather_78 {D : va_G} {cA : FieldType → ClassId} {b : Nat} {E : State → Prop} (o : Nat) (n : Nat) (sh : Nat → qC) (Rf : Nat → Nat → Option Nat) (I : Nat → Nat → Int32) (L : Nat → Nat → Int64) (post : Option Value → qS → Prop) (x1 : Int32) (x2 : Int32) (x3 : Int32) (x4 : Int32) (x5 : Int32) (x6 : Int32) (hok : q_ok (qGG D cA b E)) (hw : WfFacts (qGG D cA b E) n sh Rf o) (H : fFacts_saltByWeather_78 D cA b E o n sh Rf I L post x1 x2 x3 x4 x5 x6) : Ev (qGG D cA b E) mFacts_saltByWeather 1 (0, 0) 78 [(0, .ref o), (1, .int x1), (2, .int x2), (3, .int x3), (4, .int x4), (5, .int x5), (6, .int x6)] [] (n, sh, Rf, I, L) post := by
  unfold fFacts_saltByWeather_78 at H
  refine ev_iinc dFacts_saltByWeather_78 rfl (by decide) ?_
  refine ev_goto 6 dFacts_saltByWeather_81 (by decide) ?_
  exact ev_sub [(0, .ref o), (1, .int x1), (2, .int x2), (3, .int x3), (4, .int x4), (5, .int x5), (6, .int ((x6 + Int32.ofInt 1)))] rfl H
def fFacts_saltByWeather_6 (D : va_G) (cA : FieldType → ClassId) (b : Nat) (E : State → Prop) (o : Nat) (n : Nat) (sh : Nat → qC) (Rf : Nat → Nat → Option Nat) (I : Nat → Nat → Int32) (L : Nat → Nat → Int64) (post : Option Value → qS → Prop) (x1 : Int32) (x2 : Int32) (x3 : Int32) (x4 : Int32) (x5 : Int32) (x6 : Int32) : Prop :=
  (((I o 6) ≤ x6 → post (some (.int x5)) (n, sh, Rf, I, L)) ∧ (¬ (I o 6) ≤ x6 → vp_in x6 40 ∧ ((¬ (I (o + 2) (x6 : Int32).toNatClampNeg) = x2 → fFacts_saltByWeather_78 D cA b E o n sh Rf I L post x1 x2 x3 x4 x5 x6) ∧ ((I (o + 2) (x6 : Int32).toNatClampNeg) = x2 → vp_in x6 40 ∧ ((¬ (I (o + 3) (x6 : Int32).toNatClampNeg) = x3 → fFacts_saltByWeather_78 D cA b E o n sh Rf I L post x1 x2 x3 x4 x5 x6) ∧ ((I (o + 3) (x6 : Int32).toNatClampNeg) = x3 → Ev (qGG D cA b E) mFacts_isKnown 0 (0, 0) 0 (lv_args 0 [.ref o, .int x6, .int 0, .int x4]) [] (n, sh, Rf, I, L) (fun v τ => ∃ (r7 : Int32) (I8 : Nat → Nat → Int32) (L9 : Nat → Nat → Int64), v = some (.int r7) ∧ τ = (n, sh, Rf, I8, L9) ∧ ((r7 = 0 → fFacts_saltByWeather_78 D cA b E o n sh Rf I8 L9 post x1 x2 x3 x4 x5 x6) ∧ (¬ r7 = 0 → vp_in x6 40 ∧ ∀ y12 : Int64, ((if (((x5 : Int32).toInt64 * ((I8 (o + 4) (x6 : Int32).toNatClampNeg) : Int32).toInt64) / 100) < 999999 then (((x5 : Int32).toInt64 * ((I8 (o + 4) (x6 : Int32).toNatClampNeg) : Int32).toInt64) / 100) else 999999) : Int64) = y12 → fFacts_saltByWeather_78 D cA b E o n sh Rf I8 L9 post x1 x2 x3 x4 ((y12 : Int64).toInt32) x6)))))))))
set_option maxHeartbeats 4000000 in
set_option maxRecDepth 20000 in
theorem sFacts_saltByWeather_6 {D : va_G} {cA : FieldType → ClassId} {b : Nat} {E : State → Prop} (o : Nat) (n : Nat) (sh : Nat → qC) (Rf : Nat → Nat → Option Nat) (I : Nat → Nat → Int32) (L : Nat → Nat → Int64) (post : Option Value → qS → Prop) (x1 : Int32) (x2 : Int32) (x3 : Int32) (x4 : Int32) (x5 : Int32) (x6 : Int32) (hok : q_ok (qGG D cA b E)) (hw : WfFacts (qGG D cA b E) n sh Rf o) (H : fFacts_saltByWeather_6 D cA b E o n sh Rf I L post x1 x2 x3 x4 x5 x6) : Ev (qGG D cA b E) mFacts_saltByWeather 1 (0, 0) 6 [(0, .ref o), (1, .int x1), (2, .int x2), (3, .int x3), (4, .int x4), (5, .int x5), (6, .int x6)] [] (n, sh, Rf, I, L) post := by
  unfold fFacts_saltByWeather_6 at H
  refine ev_iload dFacts_saltByWeather_6 rfl ?_
  refine ev_aload_n dFacts_saltByWeather_8 rfl ?_
  refine ev_getI hok fk_Facts_30 (woFacts hw) (fun _ _ _ => rfl) dFacts_saltByWeather_9 ?_
  refine ev_icmp_ge 84 dFacts_saltByWeather_12 (by decide) (fun c1 => ?_) (fun c1 => ?_)
  · have H := H.1 c1
    refine ev_iload dFacts_saltByWeather_84 rfl ?_
    exact ev_iret rfl dFacts_saltByWeather_86 H
  · have H := H.2 c1
    refine ev_aload_n dFacts_saltByWeather_15 rfl ?_
    refine ev_getR hok fk_Facts_15 (woFacts hw) (fun _ _ _ => rfl) (wrFacts_1 hw) dFacts_saltByWeather_16 ?_
    refine ev_iload dFacts_saltByWeather_19 rfl ?_
    obtain ⟨h2, H⟩ := H
    refine ev_iald hok (waFacts_1 hw) h2 dFacts_saltByWeather_21 ?_
    refine ev_iload_n dFacts_saltByWeather_22 rfl ?_
    refine ev_icmp_ne 78 dFacts_saltByWeather_23 (by decide) (fun c3 => ?_) (fun c3 => ?_)
    · have H := H.1 c3
      exact ev_sub [(0, .ref o), (1, .int x1), (2, .int x2), (3, .int x3), (4, .int x4), (5, .int x5), (6, .int x6)] rfl (sFacts_saltByWeather_78 o n sh Rf I L post x1 x2 x3 x4 x5 x6 hok hw H)
    · have H := H.2 c3
      refine ev_aload_n dFacts_saltByWeather_26 rfl ?_
      refine ev_getR hok fk_Facts_18 (woFacts hw) (fun _ _ _ => rfl) (wrFacts_2 hw) dFacts_saltByWeather_27 ?_
      refine ev_iload dFacts_saltByWeather_30 rfl ?_
      obtain ⟨h4, H⟩ := H
      refine ev_iald hok (waFacts_2 hw) h4 dFacts_saltByWeather_32 ?_
      refine ev_iload_n dFacts_saltByWeather_33 rfl ?_
      refine ev_icmp_ne 78 dFacts_saltByWeather_34 (by decide) (fun c5 => ?_) (fun c5 => ?_)
      · have H := H.1 c5
        exact ev_sub [(0, .ref o), (1, .int x1), (2, .int x2), (3, .int x3), (4, .int x4), (5, .int x5), (6, .int x6)] rfl (sFacts_saltByWeather_78 o n sh Rf I L post x1 x2 x3 x4 x5 x6 hok hw H)
      · have H := H.2 c5
        refine ev_aload_n dFacts_saltByWeather_37 rfl ?_
        refine ev_iload dFacts_saltByWeather_38 rfl ?_
        refine ev_iconst (0) dFacts_saltByWeather_40 (by decide) ?_
        refine ev_iload dFacts_saltByWeather_41 rfl ?_
        refine ev_callV [.int x6, .int 0, .int x4] [] (B' := (0, 0)) (B'' := (0, 0)) hok mmFacts_isKnown mk_Facts_34 (ci := 0) rfl rfl (woFacts hw) rfl (Nat.le_of_ble_eq_true rfl) rfl (Nat.le_of_ble_eq_true rfl) dFacts_saltByWeather_43 rfl (by decide) H (fun v τ p6 => ?_)
        obtain ⟨r7, I8, L9, rfl, rfl, H⟩ := p6
        refine ev_if_eq 78 dFacts_saltByWeather_46 (by decide) (fun c10 => ?_) (fun c10 => ?_)
        · have H := H.1 c10
          exact ev_sub [(0, .ref o), (1, .int x1), (2, .int x2), (3, .int x3), (4, .int x4), (5, .int x5), (6, .int x6)] rfl (sFacts_saltByWeather_78 o n sh Rf I8 L9 post x1 x2 x3 x4 x5 x6 hok hw H)
        · have H := H.2 c10
          refine ev_iload dFacts_saltByWeather_49 rfl ?_
          refine ev_i2l dFacts_saltByWeather_51 ?_
          refine ev_aload_n dFacts_saltByWeather_52 rfl ?_
          refine ev_getR hok fk_Facts_21 (woFacts hw) (fun _ _ _ => rfl) (wrFacts_3 hw) dFacts_saltByWeather_53 ?_
          refine ev_iload dFacts_saltByWeather_56 rfl ?_
          obtain ⟨h11, H⟩ := H
          refine ev_iald hok (waFacts_3 hw) h11 dFacts_saltByWeather_58 ?_
          refine ev_i2l dFacts_saltByWeather_59 ?_
          refine ev_lmul dFacts_saltByWeather_60 ?_
          refine ev_ldc2 (100) dFacts_saltByWeather_61 (q_t5 174 (by decide +kernel) rfl) ?_
          refine ev_ldiv dFacts_saltByWeather_64 (by decide) ?_
          refine ev_lstore dFacts_saltByWeather_65 (by decide) ?_
          refine ev_ldc2 (999999) dFacts_saltByWeather_67 (q_t5 175 (by decide +kernel) rfl) ?_
          refine ev_lload dFacts_saltByWeather_70 rfl ?_
          refine ev_mminl (by decide) (q_t5 176 (by decide +kernel) rfl) (q_t5 177 (by decide +kernel) rfl) (q_t1 19 (by decide +kernel) rfl) (q_t5 178 rfl rfl) (Nat.le_of_ble_eq_true rfl) dFacts_saltByWeather_72 ?_
          generalize ey12 : ((if (((x5 : Int32).toInt64 * ((I8 (o + 4) (x6 : Int32).toNatClampNeg) : Int32).toInt64) / 100) < 999999 then (((x5 : Int32).toInt64 * ((I8 (o + 4) (x6 : Int32).toNatClampNeg) : Int32).toInt64) / 100) else 999999) : Int64) = y12
          have H := H y12 ey12
          refine ev_l2i dFacts_saltByWeather_75 ?_
          refine ev_istore dFacts_saltByWeather_76 (by decide) ?_
          exact ev_sub [(0, .ref o), (1, .int x1), (2, .int x2), (3, .int x3), (4, .int x4), (5, .int ((y12 : Int64).toInt32)), (6, .int x6)] rfl (sFacts_saltByWeather_78 o n sh Rf I8 L9 post x1 x2 x3 x4 ((y12 : Int64).toInt32) x6 hok hw H)
def fFacts_saltByWeather_0 (D : va_G) (cA : FieldType → ClassId) (b : Nat) (E : State → Prop) (o : Nat) (n : Nat) (sh : Nat → qC) (Rf : Nat → Nat → Option Nat) (I : Nat → Nat → Int32) (L : Nat → Nat → Int64) (post : Option Value → qS → Prop) (x1 : Int32) (x2 : Int32) (x3 : Int32) (x4 : Int32) : Prop :=
  Ev (qGG D cA b E) mFacts_saltByWeather 1 (0, 0) 6 [(0, .ref o), (1, .int x1), (2, .int x2), (3, .int x3), (4, .int x4), (5, .int x1), (6, .int 0)] [] (n, sh, Rf, I, L) post
set_option maxHeartbeats 4000000 in
set_option maxRecDepth 20000 in
theorem sFacts_saltByWeather_0 {D : va_G} {cA : FieldType → ClassId} {b : Nat} {E : State → Prop} (o : Nat) (n : Nat) (sh : Nat → qC) (Rf : Nat → Nat → Option Nat) (I : Nat → Nat → Int32) (L : Nat → Nat → Int64) (post : Option Value → qS → Prop) (x1 : Int32) (x2 : Int32) (x3 : Int32) (x4 : Int32) (hok : q_ok (qGG D cA b E)) (hw : WfFacts (qGG D cA b E) n sh Rf o) (H : fFacts_saltByWeather_0 D cA b E o n sh Rf I L post x1 x2 x3 x4) : Ev (qGG D cA b E) mFacts_saltByWeather 1 (0, 0) 0 [(0, .ref o), (1, .int x1), (2, .int x2), (3, .int x3), (4, .int x4)] [] (n, sh, Rf, I, L) post := by
  unfold fFacts_saltByWeather_0 at H
  refine ev_iload_n dFacts_saltByWeather_0 rfl ?_
  refine ev_istore dFacts_saltByWeather_1 (by decide) ?_
  refine ev_iconst (0) dFacts_saltByWeather_3 (by decide) ?_
  refine ev_istore dFacts_saltByWeather_4 (by decide) ?_
  exact ev_sub [(0, .ref o), (1, .int x1), (2, .int x2), (3, .int x3), (4, .int x4), (5, .int x1), (6, .int 0)] rfl H
def fLand_clear_43 (D : va_G) (cA : FieldType → ClassId) (b : Nat) (E : State → Prop) (o : Nat) (n : Nat) (sh : Nat → qC) (Rf : Nat → Nat → Option Nat) (I : Nat → Nat → Int32) (L : Nat → Nat → Int64) (post : Option Value → qS → Prop) (x1 : Int32) : Prop :=
  ((16 ≤ x1 → post none (n, sh, Rf, I, L)) ∧ (¬ 16 ≤ x1 → vp_in ((x1 * 16) + x1) 256 ∧ ∀ I2 : Nat → Nat → Int32, q_u I (o + 2) (((x1 * 16) + x1) : Int32).toNatClampNeg 0 = I2 → Ev (qGG D cA b E) mLand_clear 1 (0, 0) 43 [(0, .ref o), (1, .int ((x1 + Int32.ofInt 1)))] [] (n, sh, Rf, I2, L) post))
set_option maxHeartbeats 4000000 in
set_option maxRecDepth 20000 in
theorem sLand_clear_43 {D : va_G} {cA : FieldType → ClassId} {b : Nat} {E : State → Prop} (o : Nat) (n : Nat) (sh : Nat → qC) (Rf : Nat → Nat → Option Nat) (I : Nat → Nat → Int32) (L : Nat → Nat → Int64) (post : Option Value → qS → Prop) (x1 : Int32) (hok : q_ok (qGG D cA b E)) (hw : WfLand (qGG D cA b E) n sh Rf o) (H : fLand_clear_43 D cA b E o n sh Rf I L post x1) : Ev (qGG D cA b E) mLand_clear 1 (0, 0) 43 [(0, .ref o), (1, .int x1)] [] (n, sh, Rf, I, L) post := by
  unfold fLand_clear_43 at H
  refine ev_iload_n dLand_clear_43 rfl ?_
  refine ev_bipush (16) dLand_clear_44 (by decide) ?_
  refine ev_icmp_ge 67 dLand_clear_46 (by decide) (fun c1 => ?_) (fun c1 => ?_)
  · have H := H.1 c1
    exact ev_vret rfl dLand_clear_67 H
  · have H := H.2 c1
    refine ev_aload_n dLand_clear_49 rfl ?_
    refine ev_getR hok fk_Land_31 (woLand hw) (fun _ _ _ => rfl) (wrLand_6 hw) dLand_clear_50 ?_
    refine ev_iload_n dLand_clear_53 rfl ?_
    refine ev_bipush (16) dLand_clear_54 (by decide) ?_
    refine ev_imul dLand_clear_56 ?_
    refine ev_iload_n dLand_clear_57 rfl ?_
    refine ev_iadd dLand_clear_58 ?_
    refine ev_iconst (0) dLand_clear_59 (by decide) ?_
    obtain ⟨h3, H⟩ := H
    refine ev_iast hok (waLand_6 hw) h3 dLand_clear_60 ?_
    generalize eI2 : q_u I (o + 2) (((x1 * 16) + x1) : Int32).toNatClampNeg 0 = I2
    have H := H I2 eI2
    refine ev_iinc dLand_clear_61 rfl (by decide) ?_
    refine ev_goto 43 dLand_clear_64 (by decide) ?_
    exact ev_sub [(0, .ref o), (1, .int ((x1 + Int32.ofInt 1)))] rfl H
def fLand_clear_0 (D : va_G) (cA : FieldType → ClassId) (b : Nat) (E : State → Prop) (o : Nat) (n : Nat) (sh : Nat → qC) (Rf : Nat → Nat → Option Nat) (I : Nat → Nat → Int32) (L : Nat → Nat → Int64) (post : Option Value → qS → Prop)  : Prop :=
  ∀ I1 : Nat → Nat → Int32, q_u I o 0 0 = I1 → ∀ I2 : Nat → Nat → Int32, q_u I1 o 1 0 = I2 → ∀ I3 : Nat → Nat → Int32, q_u I2 o 2 0 = I3 → ∀ I4 : Nat → Nat → Int32, q_u I3 o 3 0 = I4 → ∀ I5 : Nat → Nat → Int32, q_u I4 o 4 0 = I5 → Ev (qGG D cA b E) mArrays_fill_53178 0 (0, 0) 0 (lv_args 0 [.ref ((o + 8)), .int 0]) [] (n, sh, Rf, I5, L) (fun v τ => ∃ (I8 : Nat → Nat → Int32) (L9 : Nat → Nat → Int64), v = none ∧ τ = (n, sh, Rf, I8, L9) ∧ Ev (qGG D cA b E) mArrays_fill_53178 0 (0, 0) 0 (lv_args 0 [.ref ((o + 2)), .int ((-1))]) [] (n, sh, Rf, I8, L9) (fun v τ => ∃ (I12 : Nat → Nat → Int32) (L13 : Nat → Nat → Int64), v = none ∧ τ = (n, sh, Rf, I12, L13) ∧ Ev (qGG D cA b E) mLand_clear 1 (0, 0) 43 [(0, .ref o), (1, .int 0)] [] (n, sh, Rf, I12, L13) post))
set_option maxHeartbeats 4000000 in
set_option maxRecDepth 20000 in
theorem sLand_clear_0 {D : va_G} {cA : FieldType → ClassId} {b : Nat} {E : State → Prop} (o : Nat) (n : Nat) (sh : Nat → qC) (Rf : Nat → Nat → Option Nat) (I : Nat → Nat → Int32) (L : Nat → Nat → Int64) (post : Option Value → qS → Prop)  (hok : q_ok (qGG D cA b E)) (hw : WfLand (qGG D cA b E) n sh Rf o) (H : fLand_clear_0 D cA b E o n sh Rf I L post ) : Ev (qGG D cA b E) mLand_clear 1 (0, 0) 0 [(0, .ref o)] [] (n, sh, Rf, I, L) post := by
  unfold fLand_clear_0 at H
  refine ev_aload_n dLand_clear_0 rfl ?_
  refine ev_iconst (0) dLand_clear_1 (by decide) ?_
  refine ev_putI hok fk_Land_9 (woLand hw) (fun _ _ _ => rfl) rfl rfl dLand_clear_2 ?_
  generalize eI1 : q_u I o 0 0 = I1
  have H := H I1 eI1
  refine ev_aload_n dLand_clear_5 rfl ?_
  refine ev_iconst (0) dLand_clear_6 (by decide) ?_
  refine ev_putI hok fk_Land_15 (woLand hw) (fun _ _ _ => rfl) rfl rfl dLand_clear_7 ?_
  generalize eI2 : q_u I1 o 1 0 = I2
  have H := H I2 eI2
  refine ev_aload_n dLand_clear_10 rfl ?_
  refine ev_iconst (0) dLand_clear_11 (by decide) ?_
  refine ev_putI hok fk_Land_18 (woLand hw) (fun _ _ _ => rfl) rfl rfl dLand_clear_12 ?_
  generalize eI3 : q_u I2 o 2 0 = I3
  have H := H I3 eI3
  refine ev_aload_n dLand_clear_15 rfl ?_
  refine ev_iconst (0) dLand_clear_16 (by decide) ?_
  refine ev_putI hok fk_Land_21 (woLand hw) (fun _ _ _ => rfl) rfl rfl dLand_clear_17 ?_
  generalize eI4 : q_u I3 o 3 0 = I4
  have H := H I4 eI4
  refine ev_aload_n dLand_clear_20 rfl ?_
  refine ev_iconst (0) dLand_clear_21 (by decide) ?_
  refine ev_putI hok fk_Land_24 (woLand hw) (fun _ _ _ => rfl) rfl rfl dLand_clear_22 ?_
  generalize eI5 : q_u I4 o 4 0 = I5
  have H := H I5 eI5
  refine ev_aload_n dLand_clear_25 rfl ?_
  refine ev_getR hok fk_Land_50 (woLand hw) (fun _ _ _ => rfl) (wrLand_12 hw) dLand_clear_26 ?_
  refine ev_iconst (0) dLand_clear_29 (by decide) ?_
  refine ev_callS [.ref ((o + 8)), .int 0] [] (B' := (0, 0)) (B'' := (0, 0)) hok mmArrays_fill_53178 mk_Land_77 rfl (Nat.le_of_ble_eq_true rfl) rfl (Nat.le_of_ble_eq_true rfl) dLand_clear_30 rfl (by decide) H (fun v τ p6 => ?_)
  obtain ⟨I8, L9, rfl, rfl, H⟩ := p6
  refine ev_aload_n dLand_clear_33 rfl ?_
  refine ev_getR hok fk_Land_31 (woLand hw) (fun _ _ _ => rfl) (wrLand_6 hw) dLand_clear_34 ?_
  refine ev_iconst (-1) dLand_clear_37 (by decide) ?_
  refine ev_callS [.ref ((o + 2)), .int ((-1))] [] (B' := (0, 0)) (B'' := (0, 0)) hok mmArrays_fill_53178 mk_Land_77 rfl (Nat.le_of_ble_eq_true rfl) rfl (Nat.le_of_ble_eq_true rfl) dLand_clear_38 rfl (by decide) H (fun v τ p10 => ?_)
  obtain ⟨I12, L13, rfl, rfl, H⟩ := p10
  refine ev_iconst (0) dLand_clear_41 (by decide) ?_
  refine ev_istore_n dLand_clear_42 (by decide) ?_
  exact ev_sub [(0, .ref o), (1, .int 0)] rfl H
def fLand_readName_33 (D : va_G) (cA : FieldType → ClassId) (b : Nat) (E : State → Prop) (o : Nat) (n : Nat) (sh : Nat → qC) (Rf : Nat → Nat → Option Nat) (I : Nat → Nat → Int32) (L : Nat → Nat → Int64) (post : Option Value → qS → Prop) (x1 : Nat) (x2 : Int32) : Prop :=
  (((I o 4) ≤ x2 → Ev (qGG D cA b E) mTape_name 0 (0, 0) 0 (lv_args 0 [.ref x1]) [] (n, sh, Rf, I, L) (fun v τ => ∃ (r3 : Int64) (I4 : Nat → Nat → Int32) (L5 : Nat → Nat → Int64), v = some (.long r3) ∧ τ = (n, sh, Rf, I4, L5) ∧ vp_in (I o 4) 11 ∧ ∀ L6 : Nat → Nat → Int64, q_u L5 (o + 1) ((I o 4) : Int32).toNatClampNeg r3 = L6 → ∀ I8 : Nat → Nat → Int32, q_u I4 o 4 ((I4 o 4) + 1) = I8 → Ev (qGG D cA b E) mTape_step 0 (0, 0) 0 (lv_args 0 [.ref x1]) [] (n, sh, Rf, I8, L6) (fun v τ => ∃ (I11 : Nat → Nat → Int32) (L12 : Nat → Nat → Int64), v = none ∧ τ = (n, sh, Rf, I11, L12) ∧ post none (n, sh, Rf, I11, L12)))) ∧ (¬ (I o 4) ≤ x2 → vp_in x2 11 ∧ Ev (qGG D cA b E) mTape_name 0 (0, 0) 0 (lv_args 0 [.ref x1]) [] (n, sh, Rf, I, L) (fun v τ => ∃ (r15 : Int64) (I16 : Nat → Nat → Int32) (L17 : Nat → Nat → Int64), v = some (.long r15) ∧ τ = (n, sh, Rf, I16, L17) ∧ ((¬ (lg_cmp (L (o + 1) (x2 : Int32).toNatClampNeg) r15) = 0 → Ev (qGG D cA b E) mLand_readName 1 (0, 0) 33 [(0, .ref o), (1, .ref x1), (2, .int ((x2 + Int32.ofInt 1)))] [] (n, sh, Rf, I16, L17) post) ∧ ((lg_cmp (L (o + 1) (x2 : Int32).toNatClampNeg) r15) = 0 → Ev (qGG D cA b E) mTape_refuse 0 (0, 0) 0 (lv_args 0 [.ref x1, .int 3]) [] (n, sh, Rf, I16, L17) (fun v τ => ∃ (I21 : Nat → Nat → Int32) (L22 : Nat → Nat → Int64), v = none ∧ τ = (n, sh, Rf, I21, L22) ∧ post none (n, sh, Rf, I21, L22)))))))
set_option maxHeartbeats 4000000 in
set_option maxRecDepth 20000 in
theorem sLand_readName_33 {D : va_G} {cA : FieldType → ClassId} {b : Nat} {E : State → Prop} (o : Nat) (n : Nat) (sh : Nat → qC) (Rf : Nat → Nat → Option Nat) (I : Nat → Nat → Int32) (L : Nat → Nat → Int64) (post : Option Value → qS → Prop) (x1 : Nat) (x2 : Int32) (hok : q_ok (qGG D cA b E)) (hw : WfLand (qGG D cA b E) n sh Rf o) (hw1 : WfTape (qGG D cA b E) n sh Rf x1) (H : fLand_readName_33 D cA b E o n sh Rf I L post x1 x2) : Ev (qGG D cA b E) mLand_readName 1 (0, 0) 33 [(0, .ref o), (1, .ref x1), (2, .int x2)] [] (n, sh, Rf, I, L) post := by
  unfold fLand_readName_33 at H
  refine ev_iload_n dLand_readName_33 rfl ?_
  refine ev_aload_n dLand_readName_34 rfl ?_
  refine ev_getI hok fk_Land_24 (woLand hw) (fun _ _ _ => rfl) dLand_readName_35 ?_
  refine ev_icmp_ge 67 dLand_readName_38 (by decide) (fun c1 => ?_) (fun c1 => ?_)
  · have H := H.1 c1
    refine ev_aload_n dLand_readName_67 rfl ?_
    refine ev_getR hok fk_Land_27 (woLand hw) (fun _ _ _ => rfl) (wrLand_5 hw) dLand_readName_68 ?_
    refine ev_aload_n dLand_readName_71 rfl ?_
    refine ev_getI hok fk_Land_24 (woLand hw) (fun _ _ _ => rfl) dLand_readName_72 ?_
    refine ev_aload_n dLand_readName_75 rfl ?_
    refine ev_callV [] [.int ((I o 4)), .ref ((o + 1))] (B' := (0, 0)) (B'' := (0, 0)) hok mmTape_name mk_Land_175 (ci := 8) rfl rfl (woTape hw1) rfl (Nat.le_of_ble_eq_true rfl) rfl (Nat.le_of_ble_eq_true rfl) dLand_readName_76 rfl (by decide) H (fun v τ p2 => ?_)
    obtain ⟨r3, I4, L5, rfl, rfl, H⟩ := p2
    obtain ⟨h7, H⟩ := H
    refine ev_last hok (waLand_5 hw) h7 dLand_readName_79 ?_
    generalize eL6 : q_u L5 (o + 1) ((I o 4) : Int32).toNatClampNeg r3 = L6
    have H := H L6 eL6
    refine ev_aload_n dLand_readName_80 rfl ?_
    refine ev_dup dLand_readName_81 rfl ?_
    refine ev_getI hok fk_Land_24 (woLand hw) (fun _ _ _ => rfl) dLand_readName_82 ?_
    refine ev_iconst (1) dLand_readName_85 (by decide) ?_
    refine ev_iadd dLand_readName_86 ?_
    refine ev_putI hok fk_Land_24 (woLand hw) (fun _ _ _ => rfl) rfl rfl dLand_readName_87 ?_
    generalize eI8 : q_u I4 o 4 ((I4 o 4) + 1) = I8
    have H := H I8 eI8
    refine ev_aload_n dLand_readName_90 rfl ?_
    refine ev_callV [] [] (B' := (0, 0)) (B'' := (0, 0)) hok mmTape_step mk_Land_120 (ci := 8) rfl rfl (woTape hw1) rfl (Nat.le_of_ble_eq_true rfl) rfl (Nat.le_of_ble_eq_true rfl) dLand_readName_91 rfl (by decide) H (fun v τ p9 => ?_)
    obtain ⟨I11, L12, rfl, rfl, H⟩ := p9
    exact ev_vret rfl dLand_readName_94 H
  · have H := H.2 c1
    refine ev_aload_n dLand_readName_41 rfl ?_
    refine ev_getR hok fk_Land_27 (woLand hw) (fun _ _ _ => rfl) (wrLand_5 hw) dLand_readName_42 ?_
    refine ev_iload_n dLand_readName_45 rfl ?_
    obtain ⟨h13, H⟩ := H
    refine ev_lald hok (waLand_5 hw) h13 dLand_readName_46 ?_
    refine ev_aload_n dLand_readName_47 rfl ?_
    refine ev_callV [] [.long ((L (o + 1) (x2 : Int32).toNatClampNeg))] (B' := (0, 0)) (B'' := (0, 0)) hok mmTape_name mk_Land_175 (ci := 8) rfl rfl (woTape hw1) rfl (Nat.le_of_ble_eq_true rfl) rfl (Nat.le_of_ble_eq_true rfl) dLand_readName_48 rfl (by decide) H (fun v τ p14 => ?_)
    obtain ⟨r15, I16, L17, rfl, rfl, H⟩ := p14
    refine ev_lcmp dLand_readName_51 ?_
    refine ev_if_ne 61 dLand_readName_52 (by decide) (fun c18 => ?_) (fun c18 => ?_)
    · have H := H.1 c18
      refine ev_iinc dLand_readName_61 rfl (by decide) ?_
      refine ev_goto 33 dLand_readName_64 (by decide) ?_
      exact ev_sub [(0, .ref o), (1, .ref x1), (2, .int ((x2 + Int32.ofInt 1)))] rfl H
    · have H := H.2 c18
      refine ev_aload_n dLand_readName_55 rfl ?_
      refine ev_iconst (3) dLand_readName_56 (by decide) ?_
      refine ev_callV [.int 3] [] (B' := (0, 0)) (B'' := (0, 0)) hok mmTape_refuse mk_Land_116 (ci := 8) rfl rfl (woTape hw1) rfl (Nat.le_of_ble_eq_true rfl) rfl (Nat.le_of_ble_eq_true rfl) dLand_readName_57 rfl (by decide) H (fun v τ p19 => ?_)
      obtain ⟨I21, L22, rfl, rfl, H⟩ := p19
      exact ev_vret rfl dLand_readName_60 H
def fLand_readName_0 (D : va_G) (cA : FieldType → ClassId) (b : Nat) (E : State → Prop) (o : Nat) (n : Nat) (sh : Nat → qC) (Rf : Nat → Nat → Option Nat) (I : Nat → Nat → Int32) (L : Nat → Nat → Int64) (post : Option Value → qS → Prop) (x1 : Nat) : Prop :=
  Ev (qGG D cA b E) mTape_kind 0 (0, 0) 0 (lv_args 0 [.ref x1]) [] (n, sh, Rf, I, L) (fun v τ => ∃ (r2 : Int32) (I3 : Nat → Nat → Int32) (L4 : Nat → Nat → Int64), v = some (.int r2) ∧ τ = (n, sh, Rf, I3, L4) ∧ ((¬ r2 = 1 → Ev (qGG D cA b E) mTape_refuse 0 (0, 0) 0 (lv_args 0 [.ref x1, .int 2]) [] (n, sh, Rf, I3, L4) (fun v τ => ∃ (I8 : Nat → Nat → Int32) (L9 : Nat → Nat → Int64), v = none ∧ τ = (n, sh, Rf, I8, L9) ∧ post none (n, sh, Rf, I8, L9))) ∧ (r2 = 1 → Ev (qGG D cA b E) mTape_value 0 (0, 0) 0 (lv_args 0 [.ref x1]) [] (n, sh, Rf, I3, L4) (fun v τ => ∃ (r11 : Int32) (I12 : Nat → Nat → Int32) (L13 : Nat → Nat → Int64), v = some (.int r11) ∧ τ = (n, sh, Rf, I12, L13) ∧ ((¬ r11 = (-1) → Ev (qGG D cA b E) mTape_refuse 0 (0, 0) 0 (lv_args 0 [.ref x1, .int 2]) [] (n, sh, Rf, I12, L13) (fun v τ => ∃ (I17 : Nat → Nat → Int32) (L18 : Nat → Nat → Int64), v = none ∧ τ = (n, sh, Rf, I17, L18) ∧ post none (n, sh, Rf, I17, L18))) ∧ (r11 = (-1) → (((I12 o 4) < 11 → Ev (qGG D cA b E) mLand_readName 1 (0, 0) 33 [(0, .ref o), (1, .ref x1), (2, .int 0)] [] (n, sh, Rf, I12, L13) post) ∧ (¬ (I12 o 4) < 11 → Ev (qGG D cA b E) mTape_refuse 0 (0, 0) 0 (lv_args 0 [.ref x1, .int 2]) [] (n, sh, Rf, I12, L13) (fun v τ => ∃ (I22 : Nat → Nat → Int32) (L23 : Nat → Nat → Int64), v = none ∧ τ = (n, sh, Rf, I22, L23) ∧ post none (n, sh, Rf, I22, L23))))))))))
set_option maxHeartbeats 4000000 in
set_option maxRecDepth 20000 in
theorem sLand_readName_0 {D : va_G} {cA : FieldType → ClassId} {b : Nat} {E : State → Prop} (o : Nat) (n : Nat) (sh : Nat → qC) (Rf : Nat → Nat → Option Nat) (I : Nat → Nat → Int32) (L : Nat → Nat → Int64) (post : Option Value → qS → Prop) (x1 : Nat) (hok : q_ok (qGG D cA b E)) (hw : WfLand (qGG D cA b E) n sh Rf o) (hw1 : WfTape (qGG D cA b E) n sh Rf x1) (H : fLand_readName_0 D cA b E o n sh Rf I L post x1) : Ev (qGG D cA b E) mLand_readName 1 (0, 0) 0 [(0, .ref o), (1, .ref x1)] [] (n, sh, Rf, I, L) post := by
  unfold fLand_readName_0 at H
  refine ev_aload_n dLand_readName_0 rfl ?_
  refine ev_callV [] [] (B' := (0, 0)) (B'' := (0, 0)) hok mmTape_kind mk_Land_172 (ci := 8) rfl rfl (woTape hw1) rfl (Nat.le_of_ble_eq_true rfl) rfl (Nat.le_of_ble_eq_true rfl) dLand_readName_1 rfl (by decide) H (fun v τ p1 => ?_)
  obtain ⟨r2, I3, L4, rfl, rfl, H⟩ := p1
  refine ev_iconst (1) dLand_readName_4 (by decide) ?_
  refine ev_icmp_ne 25 dLand_readName_5 (by decide) (fun c5 => ?_) (fun c5 => ?_)
  · have H := H.1 c5
    refine ev_aload_n dLand_readName_25 rfl ?_
    refine ev_iconst (2) dLand_readName_26 (by decide) ?_
    refine ev_callV [.int 2] [] (B' := (0, 0)) (B'' := (0, 0)) hok mmTape_refuse mk_Land_116 (ci := 8) rfl rfl (woTape hw1) rfl (Nat.le_of_ble_eq_true rfl) rfl (Nat.le_of_ble_eq_true rfl) dLand_readName_27 rfl (by decide) H (fun v τ p6 => ?_)
    obtain ⟨I8, L9, rfl, rfl, H⟩ := p6
    exact ev_vret rfl dLand_readName_30 H
  · have H := H.2 c5
    refine ev_aload_n dLand_readName_8 rfl ?_
    refine ev_callV [] [] (B' := (0, 0)) (B'' := (0, 0)) hok mmTape_value mk_Land_164 (ci := 8) rfl rfl (woTape hw1) rfl (Nat.le_of_ble_eq_true rfl) rfl (Nat.le_of_ble_eq_true rfl) dLand_readName_9 rfl (by decide) H (fun v τ p10 => ?_)
    obtain ⟨r11, I12, L13, rfl, rfl, H⟩ := p10
    refine ev_iconst (-1) dLand_readName_12 (by decide) ?_
    refine ev_icmp_ne 25 dLand_readName_13 (by decide) (fun c14 => ?_) (fun c14 => ?_)
    · have H := H.1 c14
      refine ev_aload_n dLand_readName_25 rfl ?_
      refine ev_iconst (2) dLand_readName_26 (by decide) ?_
      refine ev_callV [.int 2] [] (B' := (0, 0)) (B'' := (0, 0)) hok mmTape_refuse mk_Land_116 (ci := 8) rfl rfl (woTape hw1) rfl (Nat.le_of_ble_eq_true rfl) rfl (Nat.le_of_ble_eq_true rfl) dLand_readName_27 rfl (by decide) H (fun v τ p15 => ?_)
      obtain ⟨I17, L18, rfl, rfl, H⟩ := p15
      exact ev_vret rfl dLand_readName_30 H
    · have H := H.2 c14
      refine ev_aload_n dLand_readName_16 rfl ?_
      refine ev_getI hok fk_Land_24 (woLand hw) (fun _ _ _ => rfl) dLand_readName_17 ?_
      refine ev_bipush (11) dLand_readName_20 (by decide) ?_
      refine ev_icmp_lt 31 dLand_readName_22 (by decide) (fun c19 => ?_) (fun c19 => ?_)
      · have H := H.1 c19
        refine ev_iconst (0) dLand_readName_31 (by decide) ?_
        refine ev_istore_n dLand_readName_32 (by decide) ?_
        exact ev_sub [(0, .ref o), (1, .ref x1), (2, .int 0)] rfl H
      · have H := H.2 c19
        refine ev_aload_n dLand_readName_25 rfl ?_
        refine ev_iconst (2) dLand_readName_26 (by decide) ?_
        refine ev_callV [.int 2] [] (B' := (0, 0)) (B'' := (0, 0)) hok mmTape_refuse mk_Land_116 (ci := 8) rfl rfl (woTape hw1) rfl (Nat.le_of_ble_eq_true rfl) rfl (Nat.le_of_ble_eq_true rfl) dLand_readName_27 rfl (by decide) H (fun v τ p20 => ?_)
        obtain ⟨I22, L23, rfl, rfl, H⟩ := p20
        exact ev_vret rfl dLand_readName_30 H
def fLand_shorten_20 (D : va_G) (cA : FieldType → ClassId) (b : Nat) (E : State → Prop) (o : Nat) (n : Nat) (sh : Nat → qC) (Rf : Nat → Nat → Option Nat) (I : Nat → Nat → Int32) (L : Nat → Nat → Int64) (post : Option Value → qS → Prop) (x1 : Int32) (x2 : Int32) (x3 : Int32) (x4 : Int32) : Prop :=
  vp_in ((x1 * 16) + x2) 256 ∧ ∀ I1 : Nat → Nat → Int32, q_u I (o + 2) (((x1 * 16) + x2) : Int32).toNatClampNeg x3 = I1 → post none (n, sh, Rf, I1, L)
set_option maxHeartbeats 4000000 in
set_option maxRecDepth 20000 in
theorem sLand_shorten_20 {D : va_G} {cA : FieldType → ClassId} {b : Nat} {E : State → Prop} (o : Nat) (n : Nat) (sh : Nat → qC) (Rf : Nat → Nat → Option Nat) (I : Nat → Nat → Int32) (L : Nat → Nat → Int64) (post : Option Value → qS → Prop) (x1 : Int32) (x2 : Int32) (x3 : Int32) (x4 : Int32) (hok : q_ok (qGG D cA b E)) (hw : WfLand (qGG D cA b E) n sh Rf o) (H : fLand_shorten_20 D cA b E o n sh Rf I L post x1 x2 x3 x4) : Ev (qGG D cA b E) mLand_shorten 1 (0, 0) 20 [(0, .ref o), (1, .int x1), (2, .int x2), (3, .int x3), (4, .int x4)] [] (n, sh, Rf, I, L) post := by
  unfold fLand_shorten_20 at H
  refine ev_aload_n dLand_shorten_20 rfl ?_
  refine ev_getR hok fk_Land_31 (woLand hw) (fun _ _ _ => rfl) (wrLand_6 hw) dLand_shorten_21 ?_
  refine ev_iload_n dLand_shorten_24 rfl ?_
  refine ev_bipush (16) dLand_shorten_25 (by decide) ?_
  refine ev_imul dLand_shorten_27 ?_
  refine ev_iload_n dLand_shorten_28 rfl ?_
  refine ev_iadd dLand_shorten_29 ?_
  refine ev_iload_n dLand_shorten_30 rfl ?_
  obtain ⟨h2, H⟩ := H
  refine ev_iast hok (waLand_6 hw) h2 dLand_shorten_31 ?_
  generalize eI1 : q_u I (o + 2) (((x1 * 16) + x2) : Int32).toNatClampNeg x3 = I1
  have H := H I1 eI1
  exact ev_vret rfl dLand_shorten_32 H
def fLand_shorten_0 (D : va_G) (cA : FieldType → ClassId) (b : Nat) (E : State → Prop) (o : Nat) (n : Nat) (sh : Nat → qC) (Rf : Nat → Nat → Option Nat) (I : Nat → Nat → Int32) (L : Nat → Nat → Int64) (post : Option Value → qS → Prop) (x1 : Int32) (x2 : Int32) (x3 : Int32) : Prop :=
  Ev (qGG D cA b E) mLand_daysBetween 0 (0, 0) 0 (lv_args 0 [.ref o, .int x1, .int x2]) [] (n, sh, Rf, I, L) (fun v τ => ∃ (r2 : Int32) (I3 : Nat → Nat → Int32) (L4 : Nat → Nat → Int64), v = some (.int r2) ∧ τ = (n, sh, Rf, I3, L4) ∧ ((r2 = (-1) → fLand_shorten_20 D cA b E o n sh Rf I3 L4 post x1 x2 x3 r2) ∧ (¬ r2 = (-1) → ((r2 ≤ x3 → post none (n, sh, Rf, I3, L4)) ∧ (¬ r2 ≤ x3 → fLand_shorten_20 D cA b E o n sh Rf I3 L4 post x1 x2 x3 r2)))))
set_option maxHeartbeats 4000000 in
set_option maxRecDepth 20000 in
theorem sLand_shorten_0 {D : va_G} {cA : FieldType → ClassId} {b : Nat} {E : State → Prop} (o : Nat) (n : Nat) (sh : Nat → qC) (Rf : Nat → Nat → Option Nat) (I : Nat → Nat → Int32) (L : Nat → Nat → Int64) (post : Option Value → qS → Prop) (x1 : Int32) (x2 : Int32) (x3 : Int32) (hok : q_ok (qGG D cA b E)) (hw : WfLand (qGG D cA b E) n sh Rf o) (H : fLand_shorten_0 D cA b E o n sh Rf I L post x1 x2 x3) : Ev (qGG D cA b E) mLand_shorten 1 (0, 0) 0 [(0, .ref o), (1, .int x1), (2, .int x2), (3, .int x3)] [] (n, sh, Rf, I, L) post := by
  unfold fLand_shorten_0 at H
  refine ev_aload_n dLand_shorten_0 rfl ?_
  refine ev_iload_n dLand_shorten_1 rfl ?_
  refine ev_iload_n dLand_shorten_2 rfl ?_
  refine ev_callV [.int x1, .int x2] [] (B' := (0, 0)) (B'' := (0, 0)) hok mmLand_daysBetween mk_Land_179 (ci := 1) rfl rfl (woLand hw) rfl (Nat.le_of_ble_eq_true rfl) rfl (Nat.le_of_ble_eq_true rfl) dLand_shorten_3 rfl (by decide) H (fun v τ p1 => ?_)
  obtain ⟨r2, I3, L4, rfl, rfl, H⟩ := p1
  refine ev_istore dLand_shorten_6 (by decide) ?_
  refine ev_iload dLand_shorten_8 rfl ?_
  refine ev_iconst (-1) dLand_shorten_10 (by decide) ?_
  refine ev_icmp_eq 20 dLand_shorten_11 (by decide) (fun c5 => ?_) (fun c5 => ?_)
  · have H := H.1 c5
    exact ev_sub [(0, .ref o), (1, .int x1), (2, .int x2), (3, .int x3), (4, .int r2)] rfl (sLand_shorten_20 o n sh Rf I3 L4 post x1 x2 x3 r2 hok hw H)
  · have H := H.2 c5
    refine ev_iload dLand_shorten_14 rfl ?_
    refine ev_iload_n dLand_shorten_16 rfl ?_
    refine ev_icmp_le 32 dLand_shorten_17 (by decide) (fun c6 => ?_) (fun c6 => ?_)
    · have H := H.1 c6
      exact ev_vret rfl dLand_shorten_32 H
    · have H := H.2 c6
      exact ev_sub [(0, .ref o), (1, .int x1), (2, .int x2), (3, .int x3), (4, .int r2)] rfl (sLand_shorten_20 o n sh Rf I3 L4 post x1 x2 x3 r2 hok hw H)
def fLoads_send_0 (D : va_G) (cA : FieldType → ClassId) (b : Nat) (E : State → Prop) (o : Nat) (n : Nat) (sh : Nat → qC) (Rf : Nat → Nat → Option Nat) (I : Nat → Nat → Int32) (L : Nat → Nat → Int64) (post : Option Value → qS → Prop) (x1 : Int32) (x2 : Int32) (x3 : Int32) (x4 : Int32) (x5 : Int32) (x6 : Int32) : Prop :=
  vp_in (I o 9) 2880 ∧ ∀ I1 : Nat → Nat → Int32, q_u I (o + 1) ((I o 9) : Int32).toNatClampNeg x1 = I1 → vp_in (I1 o 9) 2880 ∧ ∀ I3 : Nat → Nat → Int32, q_u I1 (o + 2) ((I1 o 9) : Int32).toNatClampNeg x2 = I3 → vp_in (I3 o 9) 2880 ∧ ∀ I5 : Nat → Nat → Int32, q_u I3 (o + 3) ((I3 o 9) : Int32).toNatClampNeg x3 = I5 → vp_in (I5 o 9) 2880 ∧ ∀ I7 : Nat → Nat → Int32, q_u I5 (o + 5) ((I5 o 9) : Int32).toNatClampNeg x4 = I7 → Ev (qGG D cA b E) mOffice_monthsOfWay 0 (0, 0) 0 (lv_args 0 [.int x6]) [] (n, sh, Rf, I7, L) (fun v τ => ∃ (r10 : Int32) (I11 : Nat → Nat → Int32) (L12 : Nat → Nat → Int64), v = some (.int r10) ∧ τ = (n, sh, Rf, I11, L12) ∧ ∀ y13 : Int32, ((if 1 < r10 then r10 else 1) : Int32) = y13 → vp_in (I7 o 9) 2880 ∧ ∀ I14 : Nat → Nat → Int32, q_u I11 (o + 4) ((I7 o 9) : Int32).toNatClampNeg (x5 + y13) = I14 → vp_in (I14 o 9) 2880 ∧ ∀ I16 : Nat → Nat → Int32, q_u I14 (o + 8) ((I14 o 9) : Int32).toNatClampNeg x6 = I16 → ∀ I18 : Nat → Nat → Int32, q_u I16 o 9 ((I16 o 9) + 1) = I18 → post none (n, sh, Rf, I18, L12))
set_option maxHeartbeats 4000000 in
set_option maxRecDepth 20000 in
theorem sLoads_send_0 {D : va_G} {cA : FieldType → ClassId} {b : Nat} {E : State → Prop} (o : Nat) (n : Nat) (sh : Nat → qC) (Rf : Nat → Nat → Option Nat) (I : Nat → Nat → Int32) (L : Nat → Nat → Int64) (post : Option Value → qS → Prop) (x1 : Int32) (x2 : Int32) (x3 : Int32) (x4 : Int32) (x5 : Int32) (x6 : Int32) (hok : q_ok (qGG D cA b E)) (hw : WfLoads (qGG D cA b E) n sh Rf o) (hEN : qEN E) (H : fLoads_send_0 D cA b E o n sh Rf I L post x1 x2 x3 x4 x5 x6) : Ev (qGG D cA b E) mLoads_send 1 (0, 0) 0 [(0, .ref o), (1, .int x1), (2, .int x2), (3, .int x3), (4, .int x4), (5, .int x5), (6, .int x6)] [] (n, sh, Rf, I, L) post := by
  unfold fLoads_send_0 at H
  refine ev_aload_n dLoads_send_0 rfl ?_
  refine ev_getR hok fk_Loads_9 (woLoads hw) (fun _ _ _ => rfl) (wrLoads_0 hw) dLoads_send_1 ?_
  refine ev_aload_n dLoads_send_4 rfl ?_
  refine ev_getI hok fk_Loads_40 (woLoads hw) (fun _ _ _ => rfl) dLoads_send_5 ?_
  refine ev_iload_n dLoads_send_8 rfl ?_
  obtain ⟨h2, H⟩ := H
  refine ev_iast hok (waLoads_0 hw) h2 dLoads_send_9 ?_
  generalize eI1 : q_u I (o + 1) ((I o 9) : Int32).toNatClampNeg x1 = I1
  have H := H I1 eI1
  refine ev_aload_n dLoads_send_10 rfl ?_
  refine ev_getR hok fk_Loads_15 (woLoads hw) (fun _ _ _ => rfl) (wrLoads_1 hw) dLoads_send_11 ?_
  refine ev_aload_n dLoads_send_14 rfl ?_
  refine ev_getI hok fk_Loads_40 (woLoads hw) (fun _ _ _ => rfl) dLoads_send_15 ?_
  refine ev_iload_n dLoads_send_18 rfl ?_
  obtain ⟨h4, H⟩ := H
  refine ev_iast hok (waLoads_1 hw) h4 dLoads_send_19 ?_
  generalize eI3 : q_u I1 (o + 2) ((I1 o 9) : Int32).toNatClampNeg x2 = I3
  have H := H I3 eI3
  refine ev_aload_n dLoads_send_20 rfl ?_
  refine ev_getR hok fk_Loads_18 (woLoads hw) (fun _ _ _ => rfl) (wrLoads_2 hw) dLoads_send_21 ?_
  refine ev_aload_n dLoads_send_24 rfl ?_
  refine ev_getI hok fk_Loads_40 (woLoads hw) (fun _ _ _ => rfl) dLoads_send_25 ?_
  refine ev_iload_n dLoads_send_28 rfl ?_
  obtain ⟨h6, H⟩ := H
  refine ev_iast hok (waLoads_2 hw) h6 dLoads_send_29 ?_
  generalize eI5 : q_u I3 (o + 3) ((I3 o 9) : Int32).toNatClampNeg x3 = I5
  have H := H I5 eI5
  refine ev_aload_n dLoads_send_30 rfl ?_
  refine ev_getR hok fk_Loads_24 (woLoads hw) (fun _ _ _ => rfl) (wrLoads_4 hw) dLoads_send_31 ?_
  refine ev_aload_n dLoads_send_34 rfl ?_
  refine ev_getI hok fk_Loads_40 (woLoads hw) (fun _ _ _ => rfl) dLoads_send_35 ?_
  refine ev_iload dLoads_send_38 rfl ?_
  obtain ⟨h8, H⟩ := H
  refine ev_iast hok (waLoads_4 hw) h8 dLoads_send_40 ?_
  generalize eI7 : q_u I5 (o + 5) ((I5 o 9) : Int32).toNatClampNeg x4 = I7
  have H := H I7 eI7
  refine ev_aload_n dLoads_send_41 rfl ?_
  refine ev_getR hok fk_Loads_21 (woLoads hw) (fun _ _ _ => rfl) (wrLoads_3 hw) dLoads_send_42 ?_
  refine ev_aload_n dLoads_send_45 rfl ?_
  refine ev_getI hok fk_Loads_40 (woLoads hw) (fun _ _ _ => rfl) dLoads_send_46 ?_
  refine ev_iload dLoads_send_49 rfl ?_
  refine ev_iconst (1) dLoads_send_51 (by decide) ?_
  refine ev_iload dLoads_send_52 rfl ?_
  refine ev_ncallS [.int x6] [.int 1, .int x5, .int ((I7 o 9)), .ref ((o + 4))] (B' := (0, 0)) (B'' := (0, 0)) hok mmOffice_monthsOfWay (nk_Loads_61 hEN) rfl (Nat.le_of_ble_eq_true rfl) rfl (Nat.le_of_ble_eq_true rfl) dLoads_send_54 rfl (by decide) H (fun v τ p9 => ?_)
  obtain ⟨r10, I11, L12, rfl, rfl, H⟩ := p9
  refine ev_mmax (by decide) (q_t6 42 (by decide +kernel) rfl) (q_t4 41 (by decide +kernel) rfl) (q_t1 19 (by decide +kernel) rfl) (q_t4 42 rfl rfl) (Nat.le_of_ble_eq_true rfl) dLoads_send_57 ?_
  generalize ey13 : ((if 1 < r10 then r10 else 1) : Int32) = y13
  have H := H y13 ey13
  refine ev_iadd dLoads_send_60 ?_
  obtain ⟨h15, H⟩ := H
  refine ev_iast hok (waLoads_3 hw) h15 dLoads_send_61 ?_
  generalize eI14 : q_u I11 (o + 4) ((I7 o 9) : Int32).toNatClampNeg (x5 + y13) = I14
  have H := H I14 eI14
  refine ev_aload_n dLoads_send_62 rfl ?_
  refine ev_getR hok fk_Loads_33 (woLoads hw) (fun _ _ _ => rfl) (wrLoads_7 hw) dLoads_send_63 ?_
  refine ev_aload_n dLoads_send_66 rfl ?_
  refine ev_getI hok fk_Loads_40 (woLoads hw) (fun _ _ _ => rfl) dLoads_send_67 ?_
  refine ev_iload dLoads_send_70 rfl ?_
  obtain ⟨h17, H⟩ := H
  refine ev_iast hok (waLoads_7 hw) h17 dLoads_send_72 ?_
  generalize eI16 : q_u I14 (o + 8) ((I14 o 9) : Int32).toNatClampNeg x6 = I16
  have H := H I16 eI16
  refine ev_aload_n dLoads_send_73 rfl ?_
  refine ev_dup dLoads_send_74 rfl ?_
  refine ev_getI hok fk_Loads_40 (woLoads hw) (fun _ _ _ => rfl) dLoads_send_75 ?_
  refine ev_iconst (1) dLoads_send_78 (by decide) ?_
  refine ev_iadd dLoads_send_79 ?_
  refine ev_putI hok fk_Loads_40 (woLoads hw) (fun _ _ _ => rfl) rfl rfl dLoads_send_80 ?_
  generalize eI18 : q_u I16 o 9 ((I16 o 9) + 1) = I18
  have H := H I18 eI18
  exact ev_vret rfl dLoads_send_83 H
def fOffice_about_127 (D : va_G) (cA : FieldType → ClassId) (b : Nat) (E : State → Prop) (o : Nat) (n : Nat) (sh : Nat → qC) (Rf : Nat → Nat → Option Nat) (I : Nat → Nat → Int32) (L : Nat → Nat → Int64) (post : Option Value → qS → Prop) (x1 : Int32) (uo_1 : Nat) : Prop :=
  post (some (.int ((-1)))) (n, sh, Rf, I, L)
set_option maxHeartbeats 4000000 in
set_option maxRecDepth 20000 in
theorem sOffice_about_127 {D : va_G} {cA : FieldType → ClassId} {b : Nat} {E : State → Prop} (o : Nat) (n : Nat) (sh : Nat → qC) (Rf : Nat → Nat → Option Nat) (I : Nat → Nat → Int32) (L : Nat → Nat → Int64) (post : Option Value → qS → Prop) (x1 : Int32) (uo_1 : Nat) (hok : q_ok (qGG D cA b E)) (hw : WfOffice (qGG D cA b E) n sh Rf o) (huo_1 : Rf o 1 = some uo_1) (hwuo_1 : WfLand (qGG D cA b E) n sh Rf uo_1) (H : fOffice_about_127 D cA b E o n sh Rf I L post x1 uo_1) : Ev (qGG D cA b E) mOffice_about 1 (0, 0) 127 [(0, .ref o), (1, .int x1)] [.null] (n, sh, Rf, I, L) post := by
  unfold fOffice_about_127 at H
  refine ev_astore_nN dOffice_about_127 (by decide) ?_
  refine ev_aload_nN dOffice_about_128 rfl ?_
  refine ev_ifnonnullN dOffice_about_129 ?_
  refine ev_iconst (-1) dOffice_about_132 (by decide) ?_
  refine ev_goto 140 dOffice_about_133 (by decide) ?_
  exact ev_iret rfl dOffice_about_140 H
def fOffice_about_127_2 (D : va_G) (cA : FieldType → ClassId) (b : Nat) (E : State → Prop) (o : Nat) (n : Nat) (sh : Nat → qC) (Rf : Nat → Nat → Option Nat) (I : Nat → Nat → Int32) (L : Nat → Nat → Int64) (post : Option Value → qS → Prop) (x1 : Int32) (z0 : Nat) (uo_1 : Nat) : Prop :=
  post (some (.int ((I z0 5)))) (n, sh, Rf, I, L)
set_option maxHeartbeats 4000000 in
set_option maxRecDepth 20000 in
theorem sOffice_about_127_2 {D : va_G} {cA : FieldType → ClassId} {b : Nat} {E : State → Prop} (o : Nat) (n : Nat) (sh : Nat → qC) (Rf : Nat → Nat → Option Nat) (I : Nat → Nat → Int32) (L : Nat → Nat → Int64) (post : Option Value → qS → Prop) (x1 : Int32) (z0 : Nat) (uo_1 : Nat) (hok : q_ok (qGG D cA b E)) (hw : WfOffice (qGG D cA b E) n sh Rf o) (hwz0 : WfReform (qGG D cA b E) n sh Rf z0) (huo_1 : Rf o 1 = some uo_1) (hwuo_1 : WfLand (qGG D cA b E) n sh Rf uo_1) (H : fOffice_about_127_2 D cA b E o n sh Rf I L post x1 z0 uo_1) : Ev (qGG D cA b E) mOffice_about 1 (0, 0) 127 [(0, .ref o), (1, .int x1)] [.ref z0] (n, sh, Rf, I, L) post := by
  unfold fOffice_about_127_2 at H
  refine ev_astore_n dOffice_about_127 (by decide) ?_
  refine ev_aload_n dOffice_about_128 rfl ?_
  refine ev_ifnonnull 136 dOffice_about_129 (by decide) ?_
  refine ev_aload_n dOffice_about_136 rfl ?_
  refine ev_getI hok fk_Office_96 (woReform hwz0) (fun _ _ _ => rfl) dOffice_about_137 ?_
  exact ev_iret rfl dOffice_about_140 H
def fOffice_about_0 (D : va_G) (cA : FieldType → ClassId) (b : Nat) (E : State → Prop) (o : Nat) (n : Nat) (sh : Nat → qC) (Rf : Nat → Nat → Option Nat) (I : Nat → Nat → Int32) (L : Nat → Nat → Int64) (post : Option Value → qS → Prop) (x1 : Int32) (uo_1 : Nat) : Prop :=
  ((x1 = (0 : Int32) → post (some (.int ((I uo_1 1)))) (n, sh, Rf, I, L)) ∧ (¬ x1 = (0 : Int32) → ((x1 = (1 : Int32) → post (some (.int ((I uo_1 2)))) (n, sh, Rf, I, L)) ∧ (¬ x1 = (1 : Int32) → ((x1 = (2 : Int32) → post (some (.int ((I uo_1 3)))) (n, sh, Rf, I, L)) ∧ (¬ x1 = (2 : Int32) → ((x1 = (3 : Int32) → post (some (.int ((I uo_1 0)))) (n, sh, Rf, I, L)) ∧ (¬ x1 = (3 : Int32) → ((x1 = (4 : Int32) → post (some (.int ((I (o + 46) 1)))) (n, sh, Rf, I, L)) ∧ (¬ x1 = (4 : Int32) → ((x1 = (5 : Int32) → post (some (.int ((I (o + 48) 6)))) (n, sh, Rf, I, L)) ∧ (¬ x1 = (5 : Int32) → ((x1 = (6 : Int32) → post (some (.int ((I o 7)))) (n, sh, Rf, I, L)) ∧ (¬ x1 = (6 : Int32) → ((x1 = (7 : Int32) → post (some (.int ((I (o + 1) 6)))) (n, sh, Rf, I, L)) ∧ (¬ x1 = (7 : Int32) → ((10 ≤ x1 → Ev (qGG D cA b E) mOffice_shelfAt 0 (0, 0) 0 (lv_args 0 [.ref o, .int ((x1 - 10))]) [] (n, sh, Rf, I, L) (fun v τ => ∃ (I8 : Nat → Nat → Int32) (L9 : Nat → Nat → Int64), τ = (n, sh, Rf, I8, L9) ∧ ((v = some .null ∧ fOffice_about_127 D cA b E o n sh Rf I8 L9 post x1 uo_1) ∨ ∃ r7 : Nat, v = some (.ref r7) ∧ WfReform (qGG D cA b E) n sh Rf r7 ∧ fOffice_about_127_2 D cA b E o n sh Rf I8 L9 post x1 r7 uo_1))) ∧ (¬ 10 ≤ x1 → fOffice_about_127 D cA b E o n sh Rf I L post x1 uo_1))))))))))))))))))
set_option maxHeartbeats 4000000 in
set_option maxRecDepth 20000 in
theorem sOffice_about_0 {D : va_G} {cA : FieldType → ClassId} {b : Nat} {E : State → Prop} (o : Nat) (n : Nat) (sh : Nat → qC) (Rf : Nat → Nat → Option Nat) (I : Nat → Nat → Int32) (L : Nat → Nat → Int64) (post : Option Value → qS → Prop) (x1 : Int32) (uo_1 : Nat) (hok : q_ok (qGG D cA b E)) (hw : WfOffice (qGG D cA b E) n sh Rf o) (huo_1 : Rf o 1 = some uo_1) (hwuo_1 : WfLand (qGG D cA b E) n sh Rf uo_1) (H : fOffice_about_0 D cA b E o n sh Rf I L post x1 uo_1) : Ev (qGG D cA b E) mOffice_about 1 (0, 0) 0 [(0, .ref o), (1, .int x1)] [] (n, sh, Rf, I, L) post := by
  unfold fOffice_about_0 at H
  refine ev_iload_n dOffice_about_0 rfl ?_
  rcases q_em (x1 = (0)) with c0 | c0
  · have H := H.1 c0
    refine ev_tableIn 48 dOffice_about_1 (by rw [c0]; decide) (by rw [c0]; decide) (off := 47) (by rw [c0]; rfl) (by decide) ?_
    refine ev_aload_n dOffice_about_48 rfl ?_
    refine ev_getR hok fk_Office_19 (woOffice hw) (fun _ _ _ => rfl) huo_1 dOffice_about_49 ?_
    refine ev_getI hok fk_Office_86 (woLand hwuo_1) (fun _ _ _ => rfl) dOffice_about_52 ?_
    exact ev_iret rfl dOffice_about_55 H
  have H := H.2 c0
  rcases q_em (x1 = (1)) with c1 | c1
  · have H := H.1 c1
    refine ev_tableIn 56 dOffice_about_1 (by rw [c1]; decide) (by rw [c1]; decide) (off := 55) (by rw [c1]; rfl) (by decide) ?_
    refine ev_aload_n dOffice_about_56 rfl ?_
    refine ev_getR hok fk_Office_19 (woOffice hw) (fun _ _ _ => rfl) huo_1 dOffice_about_57 ?_
    refine ev_getI hok fk_Office_89 (woLand hwuo_1) (fun _ _ _ => rfl) dOffice_about_60 ?_
    exact ev_iret rfl dOffice_about_63 H
  have H := H.2 c1
  rcases q_em (x1 = (2)) with c2 | c2
  · have H := H.1 c2
    refine ev_tableIn 64 dOffice_about_1 (by rw [c2]; decide) (by rw [c2]; decide) (off := 63) (by rw [c2]; rfl) (by decide) ?_
    refine ev_aload_n dOffice_about_64 rfl ?_
    refine ev_getR hok fk_Office_19 (woOffice hw) (fun _ _ _ => rfl) huo_1 dOffice_about_65 ?_
    refine ev_getI hok fk_Office_92 (woLand hwuo_1) (fun _ _ _ => rfl) dOffice_about_68 ?_
    exact ev_iret rfl dOffice_about_71 H
  have H := H.2 c2
  rcases q_em (x1 = (3)) with c3 | c3
  · have H := H.1 c3
    refine ev_tableIn 72 dOffice_about_1 (by rw [c3]; decide) (by rw [c3]; decide) (off := 71) (by rw [c3]; rfl) (by decide) ?_
    refine ev_aload_n dOffice_about_72 rfl ?_
    refine ev_getR hok fk_Office_19 (woOffice hw) (fun _ _ _ => rfl) huo_1 dOffice_about_73 ?_
    refine ev_getI hok fk_Office_83 (woLand hwuo_1) (fun _ _ _ => rfl) dOffice_about_76 ?_
    exact ev_iret rfl dOffice_about_79 H
  have H := H.2 c3
  rcases q_em (x1 = (4)) with c4 | c4
  · have H := H.1 c4
    refine ev_tableIn 80 dOffice_about_1 (by rw [c4]; decide) (by rw [c4]; decide) (off := 79) (by rw [c4]; rfl) (by decide) ?_
    refine ev_aload_n dOffice_about_80 rfl ?_
    refine ev_getR hok fk_Office_40 (woOffice hw) (fun _ _ _ => rfl) (wrOffice_5 hw) dOffice_about_81 ?_
    refine ev_getI hok fk_Office_109 (woTrade (wsOffice_5 hw)) (fun _ _ _ => rfl) dOffice_about_84 ?_
    exact ev_iret rfl dOffice_about_87 H
  have H := H.2 c4
  rcases q_em (x1 = (5)) with c5 | c5
  · have H := H.1 c5
    refine ev_tableIn 88 dOffice_about_1 (by rw [c5]; decide) (by rw [c5]; decide) (off := 87) (by rw [c5]; rfl) (by decide) ?_
    refine ev_aload_n dOffice_about_88 rfl ?_
    refine ev_getR hok fk_Office_47 (woOffice hw) (fun _ _ _ => rfl) (wrOffice_6 hw) dOffice_about_89 ?_
    refine ev_getI hok fk_Office_76 (woFacts (wsOffice_6 hw)) (fun _ _ _ => rfl) dOffice_about_92 ?_
    exact ev_iret rfl dOffice_about_95 H
  have H := H.2 c5
  rcases q_em (x1 = (6)) with c6 | c6
  · have H := H.1 c6
    refine ev_tableIn 96 dOffice_about_1 (by rw [c6]; decide) (by rw [c6]; decide) (off := 95) (by rw [c6]; rfl) (by decide) ?_
    refine ev_aload_n dOffice_about_96 rfl ?_
    refine ev_getI hok fk_Office_51 (woOffice hw) (fun _ _ _ => rfl) dOffice_about_97 ?_
    exact ev_iret rfl dOffice_about_100 H
  have H := H.2 c6
  rcases q_em (x1 = (7)) with c7 | c7
  · have H := H.1 c7
    refine ev_tableIn 101 dOffice_about_1 (by rw [c7]; decide) (by rw [c7]; decide) (off := 100) (by rw [c7]; rfl) (by decide) ?_
    refine ev_aload_n dOffice_about_101 rfl ?_
    refine ev_getR hok fk_Office_12 (woOffice hw) (fun _ _ _ => rfl) (wrOffice_0 hw) dOffice_about_102 ?_
    refine ev_getI hok fk_Office_65 (woTape (wsOffice_0 hw)) (fun _ _ _ => rfl) dOffice_about_105 ?_
    exact ev_iret rfl dOffice_about_108 H
  have H := H.2 c7
  refine ev_tableOut 109 dOffice_about_1 (by have e0 : (0 : Int) ≠ (x1 : Int32).toInt := fun h => c0 (Int32.toInt_inj.mp (h.symm.trans (by decide))); have e1 : (1 : Int) ≠ (x1 : Int32).toInt := fun h => c1 (Int32.toInt_inj.mp (h.symm.trans (by decide))); have e2 : (2 : Int) ≠ (x1 : Int32).toInt := fun h => c2 (Int32.toInt_inj.mp (h.symm.trans (by decide))); have e3 : (3 : Int) ≠ (x1 : Int32).toInt := fun h => c3 (Int32.toInt_inj.mp (h.symm.trans (by decide))); have e4 : (4 : Int) ≠ (x1 : Int32).toInt := fun h => c4 (Int32.toInt_inj.mp (h.symm.trans (by decide))); have e5 : (5 : Int) ≠ (x1 : Int32).toInt := fun h => c5 (Int32.toInt_inj.mp (h.symm.trans (by decide))); have e6 : (6 : Int) ≠ (x1 : Int32).toInt := fun h => c6 (Int32.toInt_inj.mp (h.symm.trans (by decide))); have e7 : (7 : Int) ≠ (x1 : Int32).toInt := fun h => c7 (Int32.toInt_inj.mp (h.symm.trans (by decide))); omega) (by decide) ?_
  refine ev_iload_n dOffice_about_109 rfl ?_
  refine ev_bipush (10) dOffice_about_110 (by decide) ?_
  refine ev_icmp_ge 119 dOffice_about_112 (by decide) (fun c1 => ?_) (fun c1 => ?_)
  · have H := H.1 c1
    refine ev_aload_n dOffice_about_119 rfl ?_
    refine ev_iload_n dOffice_about_120 rfl ?_
    refine ev_bipush (10) dOffice_about_121 (by decide) ?_
    refine ev_isub dOffice_about_123 ?_
    refine ev_callV [.int ((x1 - 10))] [] (B' := (0, 0)) (B'' := (0, 0)) hok mmOffice_shelfAt mk_Office_147 (ci := 11) rfl rfl (woOffice hw) rfl (Nat.le_of_ble_eq_true rfl) rfl (Nat.le_of_ble_eq_true rfl) dOffice_about_124 rfl (by decide) H (fun v τ p6 => ?_)
    obtain ⟨I8, L9, rfl, ⟨rfl, H⟩ | ⟨r7, rfl, hwr7, H⟩⟩ := p6
    · exact ev_sub [(0, .ref o), (1, .int x1)] rfl (sOffice_about_127 o n sh Rf I8 L9 post x1 uo_1 hok hw huo_1 hwuo_1 H)
    · exact ev_sub [(0, .ref o), (1, .int x1)] rfl (sOffice_about_127_2 o n sh Rf I8 L9 post x1 r7 uo_1 hok hw hwr7 huo_1 hwuo_1 H)
  · have H := H.2 c1
    refine ev_null dOffice_about_115 ?_
    refine ev_goto 127 dOffice_about_116 (by decide) ?_
    exact ev_sub [(0, .ref o), (1, .int x1)] rfl (sOffice_about_127 o n sh Rf I L post x1 uo_1 hok hw huo_1 hwuo_1 H)
def fOffice_book_0 (D : va_G) (cA : FieldType → ClassId) (b : Nat) (E : State → Prop) (o : Nat) (n : Nat) (sh : Nat → qC) (Rf : Nat → Nat → Option Nat) (I : Nat → Nat → Int32) (L : Nat → Nat → Int64) (post : Option Value → qS → Prop) (x1 : Int32) (x2 : Int32) (x3 : Int32) : Prop :=
  Ev (qGG D cA b E) mOffice_ranMonth 0 (0, 0) 0 (lv_args 0 [.ref o, .int x2]) [] (n, sh, Rf, I, L) (fun v τ => ∃ (r2 : Int32) (I3 : Nat → Nat → Int32) (L4 : Nat → Nat → Int64), v = some (.int r2) ∧ τ = (n, sh, Rf, I3, L4) ∧ ((r2 = 0 → post (some (.long ((-1)))) (n, sh, Rf, I3, L4)) ∧ (¬ r2 = 0 → ((x1 < 0 → post (some (.long ((-1)))) (n, sh, Rf, I3, L4)) ∧ (¬ x1 < 0 → (((I3 (o + 46) 1) ≤ x1 → post (some (.long ((-1)))) (n, sh, Rf, I3, L4)) ∧ (¬ (I3 (o + 46) 1) ≤ x1 → Ev (qGG D cA b E) mOffice_within 0 (0, 0) 0 (lv_args 0 [.int x3, .int 0, .int 2]) [] (n, sh, Rf, I3, L4) (fun v τ => ∃ (r9 : Int32) (I10 : Nat → Nat → Int32) (L11 : Nat → Nat → Int64), v = some (.int r9) ∧ τ = (n, sh, Rf, I10, L11) ∧ ((¬ r9 = 0 → vp_in ((((x2 * 6) + x1) * 3) + x3) 4320 ∧ post (some (.long ((L11 (((o + 55) + 53) + 4) (((((x2 * 6) + x1) * 3) + x3) : Int32).toNatClampNeg)))) (n, sh, Rf, I10, L11)) ∧ (r9 = 0 → post (some (.long ((-1)))) (n, sh, Rf, I10, L11)))))))))))
set_option maxHeartbeats 4000000 in
set_option maxRecDepth 20000 in
theorem sOffice_book_0 {D : va_G} {cA : FieldType → ClassId} {b : Nat} {E : State → Prop} (o : Nat) (n : Nat) (sh : Nat → qC) (Rf : Nat → Nat → Option Nat) (I : Nat → Nat → Int32) (L : Nat → Nat → Int64) (post : Option Value → qS → Prop) (x1 : Int32) (x2 : Int32) (x3 : Int32) (hok : q_ok (qGG D cA b E)) (hw : WfOffice (qGG D cA b E) n sh Rf o) (H : fOffice_book_0 D cA b E o n sh Rf I L post x1 x2 x3) : Ev (qGG D cA b E) mOffice_book 1 (0, 0) 0 [(0, .ref o), (1, .int x1), (2, .int x2), (3, .int x3)] [] (n, sh, Rf, I, L) post := by
  unfold fOffice_book_0 at H
  refine ev_aload_n dOffice_book_0 rfl ?_
  refine ev_iload_n dOffice_book_1 rfl ?_
  refine ev_callV [.int x2] [] (B' := (0, 0)) (B'' := (0, 0)) hok mmOffice_ranMonth mk_Office_168 (ci := 11) rfl rfl (woOffice hw) rfl (Nat.le_of_ble_eq_true rfl) rfl (Nat.le_of_ble_eq_true rfl) dOffice_book_2 rfl (by decide) H (fun v τ p1 => ?_)
  obtain ⟨r2, I3, L4, rfl, rfl, H⟩ := p1
  refine ev_if_eq 32 dOffice_book_5 (by decide) (fun c5 => ?_) (fun c5 => ?_)
  · have H := H.1 c5
    refine ev_ldc2 (-1) dOffice_book_32 (q_t6 147 (by decide +kernel) rfl) ?_
    exact ev_lret rfl dOffice_book_35 H
  · have H := H.2 c5
    refine ev_iload_n dOffice_book_8 rfl ?_
    refine ev_if_lt 32 dOffice_book_9 (by decide) (fun c6 => ?_) (fun c6 => ?_)
    · have H := H.1 c6
      refine ev_ldc2 (-1) dOffice_book_32 (q_t6 147 (by decide +kernel) rfl) ?_
      exact ev_lret rfl dOffice_book_35 H
    · have H := H.2 c6
      refine ev_iload_n dOffice_book_12 rfl ?_
      refine ev_aload_n dOffice_book_13 rfl ?_
      refine ev_getR hok fk_Office_40 (woOffice hw) (fun _ _ _ => rfl) (wrOffice_5 hw) dOffice_book_14 ?_
      refine ev_getI hok fk_Office_109 (woTrade (wsOffice_5 hw)) (fun _ _ _ => rfl) dOffice_book_17 ?_
      refine ev_icmp_ge 32 dOffice_book_20 (by decide) (fun c7 => ?_) (fun c7 => ?_)
      · have H := H.1 c7
        refine ev_ldc2 (-1) dOffice_book_32 (q_t6 147 (by decide +kernel) rfl) ?_
        exact ev_lret rfl dOffice_book_35 H
      · have H := H.2 c7
        refine ev_iload_n dOffice_book_23 rfl ?_
        refine ev_iconst (0) dOffice_book_24 (by decide) ?_
        refine ev_iconst (2) dOffice_book_25 (by decide) ?_
        refine ev_callS [.int x3, .int 0, .int 2] [] (B' := (0, 0)) (B'' := (0, 0)) hok mmOffice_within mk_Office_116 rfl (Nat.le_of_ble_eq_true rfl) rfl (Nat.le_of_ble_eq_true rfl) dOffice_book_26 rfl (by decide) H (fun v τ p8 => ?_)
        obtain ⟨r9, I10, L11, rfl, rfl, H⟩ := p8
        refine ev_if_ne 36 dOffice_book_29 (by decide) (fun c12 => ?_) (fun c12 => ?_)
        · have H := H.1 c12
          refine ev_aload_n dOffice_book_36 rfl ?_
          refine ev_getR hok fk_Office_58 (woOffice hw) (fun _ _ _ => rfl) (wrOffice_8 hw) dOffice_book_37 ?_
          refine ev_getR hok fk_Office_172 (woRun (wsOffice_8 hw)) (fun _ _ _ => rfl) (wrRun_6 (wsOffice_8 hw)) dOffice_book_40 ?_
          refine ev_getR hok fk_Office_184 (woRecords (wsRun_6 (wsOffice_8 hw))) (fun _ _ _ => rfl) (wrRecords_3 (wsRun_6 (wsOffice_8 hw))) dOffice_book_43 ?_
          refine ev_iload_n dOffice_book_46 rfl ?_
          refine ev_bipush (6) dOffice_book_47 (by decide) ?_
          refine ev_imul dOffice_book_49 ?_
          refine ev_iload_n dOffice_book_50 rfl ?_
          refine ev_iadd dOffice_book_51 ?_
          refine ev_iconst (3) dOffice_book_52 (by decide) ?_
          refine ev_imul dOffice_book_53 ?_
          refine ev_iload_n dOffice_book_54 rfl ?_
          refine ev_iadd dOffice_book_55 ?_
          obtain ⟨h13, H⟩ := H
          refine ev_lald hok (waRecords_3 (wsRun_6 (wsOffice_8 hw))) h13 dOffice_book_56 ?_
          exact ev_lret rfl dOffice_book_57 H
        · have H := H.2 c12
          refine ev_ldc2 (-1) dOffice_book_32 (q_t6 147 (by decide +kernel) rfl) ?_
          exact ev_lret rfl dOffice_book_35 H
def fOffice_compareWaits_25 (D : va_G) (cA : FieldType → ClassId) (b : Nat) (E : State → Prop) (n : Nat) (sh : Nat → qC) (Rf : Nat → Nat → Option Nat) (I : Nat → Nat → Int32) (L : Nat → Nat → Int64) (post : Option Value → qS → Prop) (x0 : Int64) (x2 : Int64) (x4 : Int64) (x6 : Int64) (z0 : Int64) : Prop :=
  ((¬ (lg_cmp x2 0) = 0 → Ev (qGG D cA b E) mLong_compare_74951 0 (0, 0) 0 (lv_args 0 [.long z0, .long 1]) [] (n, sh, Rf, I, L) (fun v τ => ∃ (r3 : Int32) (I4 : Nat → Nat → Int32) (L5 : Nat → Nat → Int64), v = some (.int r3) ∧ τ = (n, sh, Rf, I4, L5) ∧ post (some (.int r3)) (n, sh, Rf, I4, L5))) ∧ ((lg_cmp x2 0) = 0 → Ev (qGG D cA b E) mLong_compare_74951 0 (0, 0) 0 (lv_args 0 [.long z0, .long 0]) [] (n, sh, Rf, I, L) (fun v τ => ∃ (r7 : Int32) (I8 : Nat → Nat → Int32) (L9 : Nat → Nat → Int64), v = some (.int r7) ∧ τ = (n, sh, Rf, I8, L9) ∧ post (some (.int r7)) (n, sh, Rf, I8, L9))))
set_option maxHeartbeats 4000000 in
set_option maxRecDepth 20000 in
theorem sOffice_compareWaits_25 {D : va_G} {cA : FieldType → ClassId} {b : Nat} {E : State → Prop} (n : Nat) (sh : Nat → qC) (Rf : Nat → Nat → Option Nat) (I : Nat → Nat → Int32) (L : Nat → Nat → Int64) (post : Option Value → qS → Prop) (x0 : Int64) (x2 : Int64) (x4 : Int64) (x6 : Int64) (z0 : Int64) (hok : q_ok (qGG D cA b E)) (H : fOffice_compareWaits_25 D cA b E n sh Rf I L post x0 x2 x4 x6 z0) : Ev (qGG D cA b E) mOffice_compareWaits 1 (0, 0) 25 [(0, .long x0), (2, .long x2), (4, .long x4), (6, .long x6)] [.long z0] (n, sh, Rf, I, L) post := by
  unfold fOffice_compareWaits_25 at H
  refine ev_lload_n dOffice_compareWaits_25 rfl ?_
  refine ev_lconst 0 dOffice_compareWaits_26 (by decide) ?_
  refine ev_lcmp dOffice_compareWaits_27 ?_
  refine ev_if_ne 35 dOffice_compareWaits_28 (by decide) (fun c1 => ?_) (fun c1 => ?_)
  · have H := H.1 c1
    refine ev_lconst 1 dOffice_compareWaits_35 (by decide) ?_
    refine ev_callS [.long z0, .long 1] [] (B' := (0, 0)) (B'' := (0, 0)) hok mmLong_compare_74951 mk_Office_228 rfl (Nat.le_of_ble_eq_true rfl) rfl (Nat.le_of_ble_eq_true rfl) dOffice_compareWaits_36 rfl (by decide) H (fun v τ p2 => ?_)
    obtain ⟨r3, I4, L5, rfl, rfl, H⟩ := p2
    exact ev_iret rfl dOffice_compareWaits_39 H
  · have H := H.2 c1
    refine ev_lconst 0 dOffice_compareWaits_31 (by decide) ?_
    refine ev_goto 36 dOffice_compareWaits_32 (by decide) ?_
    refine ev_callS [.long z0, .long 0] [] (B' := (0, 0)) (B'' := (0, 0)) hok mmLong_compare_74951 mk_Office_228 rfl (Nat.le_of_ble_eq_true rfl) rfl (Nat.le_of_ble_eq_true rfl) dOffice_compareWaits_36 rfl (by decide) H (fun v τ p6 => ?_)
    obtain ⟨r7, I8, L9, rfl, rfl, H⟩ := p6
    exact ev_iret rfl dOffice_compareWaits_39 H
def fOffice_compareWaits_13 (D : va_G) (cA : FieldType → ClassId) (b : Nat) (E : State → Prop) (n : Nat) (sh : Nat → qC) (Rf : Nat → Nat → Option Nat) (I : Nat → Nat → Int32) (L : Nat → Nat → Int64) (post : Option Value → qS → Prop) (x0 : Int64) (x2 : Int64) (x4 : Int64) (x6 : Int64) : Prop :=
  ((¬ (lg_cmp x6 0) = 0 → fOffice_compareWaits_25 D cA b E n sh Rf I L post x0 x2 x4 x6 1) ∧ ((lg_cmp x6 0) = 0 → fOffice_compareWaits_25 D cA b E n sh Rf I L post x0 x2 x4 x6 0))
set_option maxHeartbeats 4000000 in
set_option maxRecDepth 20000 in
theorem sOffice_compareWaits_13 {D : va_G} {cA : FieldType → ClassId} {b : Nat} {E : State → Prop} (n : Nat) (sh : Nat → qC) (Rf : Nat → Nat → Option Nat) (I : Nat → Nat → Int32) (L : Nat → Nat → Int64) (post : Option Value → qS → Prop) (x0 : Int64) (x2 : Int64) (x4 : Int64) (x6 : Int64) (hok : q_ok (qGG D cA b E)) (H : fOffice_compareWaits_13 D cA b E n sh Rf I L post x0 x2 x4 x6) : Ev (qGG D cA b E) mOffice_compareWaits 1 (0, 0) 13 [(0, .long x0), (2, .long x2), (4, .long x4), (6, .long x6)] [] (n, sh, Rf, I, L) post := by
  unfold fOffice_compareWaits_13 at H
  refine ev_lload dOffice_compareWaits_13 rfl ?_
  refine ev_lconst 0 dOffice_compareWaits_15 (by decide) ?_
  refine ev_lcmp dOffice_compareWaits_16 ?_
  refine ev_if_ne 24 dOffice_compareWaits_17 (by decide) (fun c1 => ?_) (fun c1 => ?_)
  · have H := H.1 c1
    refine ev_lconst 1 dOffice_compareWaits_24 (by decide) ?_
    exact ev_sub [(0, .long x0), (2, .long x2), (4, .long x4), (6, .long x6)] rfl (sOffice_compareWaits_25 n sh Rf I L post x0 x2 x4 x6 1 hok H)
  · have H := H.2 c1
    refine ev_lconst 0 dOffice_compareWaits_20 (by decide) ?_
    refine ev_goto 25 dOffice_compareWaits_21 (by decide) ?_
    exact ev_sub [(0, .long x0), (2, .long x2), (4, .long x4), (6, .long x6)] rfl (sOffice_compareWaits_25 n sh Rf I L post x0 x2 x4 x6 0 hok H)
def fOffice_compareWaits_0 (D : va_G) (cA : FieldType → ClassId) (b : Nat) (E : State → Prop) (n : Nat) (sh : Nat → qC) (Rf : Nat → Nat → Option Nat) (I : Nat → Nat → Int32) (L : Nat → Nat → Int64) (post : Option Value → qS → Prop) (x0 : Int64) (x2 : Int64) (x4 : Int64) (x6 : Int64) : Prop :=
  (((lg_cmp x2 0) = 0 → fOffice_compareWaits_13 D cA b E n sh Rf I L post x0 x2 x4 x6) ∧ (¬ (lg_cmp x2 0) = 0 → ((¬ (lg_cmp x6 0) = 0 → Ev (qGG D cA b E) mLong_compare_74951 0 (0, 0) 0 (lv_args 0 [.long ((x0 * x6)), .long ((x4 * x2))]) [] (n, sh, Rf, I, L) (fun v τ => ∃ (r4 : Int32) (I5 : Nat → Nat → Int32) (L6 : Nat → Nat → Int64), v = some (.int r4) ∧ τ = (n, sh, Rf, I5, L6) ∧ post (some (.int r4)) (n, sh, Rf, I5, L6))) ∧ ((lg_cmp x6 0) = 0 → fOffice_compareWaits_13 D cA b E n sh Rf I L post x0 x2 x4 x6))))
set_option maxHeartbeats 4000000 in
set_option maxRecDepth 20000 in
theorem sOffice_compareWaits_0 {D : va_G} {cA : FieldType → ClassId} {b : Nat} {E : State → Prop} (n : Nat) (sh : Nat → qC) (Rf : Nat → Nat → Option Nat) (I : Nat → Nat → Int32) (L : Nat → Nat → Int64) (post : Option Value → qS → Prop) (x0 : Int64) (x2 : Int64) (x4 : Int64) (x6 : Int64) (hok : q_ok (qGG D cA b E)) (H : fOffice_compareWaits_0 D cA b E n sh Rf I L post x0 x2 x4 x6) : Ev (qGG D cA b E) mOffice_compareWaits 1 (0, 0) 0 [(0, .long x0), (2, .long x2), (4, .long x4), (6, .long x6)] [] (n, sh, Rf, I, L) post := by
  unfold fOffice_compareWaits_0 at H
  refine ev_lload_n dOffice_compareWaits_0 rfl ?_
  refine ev_lconst 0 dOffice_compareWaits_1 (by decide) ?_
  refine ev_lcmp dOffice_compareWaits_2 ?_
  refine ev_if_eq 13 dOffice_compareWaits_3 (by decide) (fun c1 => ?_) (fun c1 => ?_)
  · have H := H.1 c1
    exact ev_sub [(0, .long x0), (2, .long x2), (4, .long x4), (6, .long x6)] rfl (sOffice_compareWaits_13 n sh Rf I L post x0 x2 x4 x6 hok H)
  · have H := H.2 c1
    refine ev_lload dOffice_compareWaits_6 rfl ?_
    refine ev_lconst 0 dOffice_compareWaits_8 (by decide) ?_
    refine ev_lcmp dOffice_compareWaits_9 ?_
    refine ev_if_ne 40 dOffice_compareWaits_10 (by decide) (fun c2 => ?_) (fun c2 => ?_)
    · have H := H.1 c2
      refine ev_lload_n dOffice_compareWaits_40 rfl ?_
      refine ev_lload dOffice_compareWaits_41 rfl ?_
      refine ev_lmul dOffice_compareWaits_43 ?_
      refine ev_lload dOffice_compareWaits_44 rfl ?_
      refine ev_lload_n dOffice_compareWaits_46 rfl ?_
      refine ev_lmul dOffice_compareWaits_47 ?_
      refine ev_callS [.long ((x0 * x6)), .long ((x4 * x2))] [] (B' := (0, 0)) (B'' := (0, 0)) hok mmLong_compare_74951 mk_Office_228 rfl (Nat.le_of_ble_eq_true rfl) rfl (Nat.le_of_ble_eq_true rfl) dOffice_compareWaits_48 rfl (by decide) H (fun v τ p3 => ?_)
      obtain ⟨r4, I5, L6, rfl, rfl, H⟩ := p3
      exact ev_iret rfl dOffice_compareWaits_51 H
    · have H := H.2 c2
      exact ev_sub [(0, .long x0), (2, .long x2), (4, .long x4), (6, .long x6)] rfl (sOffice_compareWaits_13 n sh Rf I L post x0 x2 x4 x6 hok H)
def fOffice_costs_35 (D : va_G) (cA : FieldType → ClassId) (b : Nat) (E : State → Prop) (o : Nat) (n : Nat) (sh : Nat → qC) (Rf : Nat → Nat → Option Nat) (I : Nat → Nat → Int32) (L : Nat → Nat → Int64) (post : Option Value → qS → Prop) (x1 : Int32) (x2 : Int32) (x3 : Int32) (x4 : Int32) (x5 : Int32) (z0 : Int32) : Prop :=
  ((z0 = 0 → post (some (.int 0)) (n, sh, Rf, I, L)) ∧ (¬ z0 = 0 → Ev (qGG D cA b E) mOffice_within 0 (0, 0) 0 (lv_args 0 [.int x4, .int 0, .int 9999]) [] (n, sh, Rf, I, L) (fun v τ => ∃ (r3 : Int32) (I4 : Nat → Nat → Int32) (L5 : Nat → Nat → Int64), v = some (.int r3) ∧ τ = (n, sh, Rf, I4, L5) ∧ ((r3 = 0 → post (some (.int 0)) (n, sh, Rf, I4, L5)) ∧ (¬ r3 = 0 → Ev (qGG D cA b E) mOffice_within 0 (0, 0) 0 (lv_args 0 [.int x5, .int 0, .int 999]) [] (n, sh, Rf, I4, L5) (fun v τ => ∃ (r8 : Int32) (I9 : Nat → Nat → Int32) (L10 : Nat → Nat → Int64), v = some (.int r8) ∧ τ = (n, sh, Rf, I9, L10) ∧ ((¬ r8 = 0 → ∀ I12 : Nat → Nat → Int32, q_u I9 (o + 46) 2 x1 = I12 → ∀ I13 : Nat → Nat → Int32, q_u I12 (o + 46) 3 x2 = I13 → ∀ I14 : Nat → Nat → Int32, q_u I13 (o + 46) 4 x3 = I14 → ∀ I15 : Nat → Nat → Int32, q_u I14 (o + 46) 5 x4 = I15 → ∀ I16 : Nat → Nat → Int32, q_u I15 (o + 46) 6 x5 = I16 → ∀ I17 : Nat → Nat → Int32, q_u I16 (o + 55) 15 0 = I17 → post (some (.int 1)) (n, sh, Rf, I17, L10)) ∧ (r8 = 0 → post (some (.int 0)) (n, sh, Rf, I9, L10)))))))))
set_option maxHeartbeats 4000000 in
set_option maxRecDepth 20000 in
theorem sOffice_costs_35 {D : va_G} {cA : FieldType → ClassId} {b : Nat} {E : State → Prop} (o : Nat) (n : Nat) (sh : Nat → qC) (Rf : Nat → Nat → Option Nat) (I : Nat → Nat → Int32) (L : Nat → Nat → Int64) (post : Option Value → qS → Prop) (x1 : Int32) (x2 : Int32) (x3 : Int32) (x4 : Int32) (x5 : Int32) (z0 : Int32) (hok : q_ok (qGG D cA b E)) (hw : WfOffice (qGG D cA b E) n sh Rf o) (H : fOffice_costs_35 D cA b E o n sh Rf I L post x1 x2 x3 x4 x5 z0) : Ev (qGG D cA b E) mOffice_costs 1 (0, 0) 35 [(0, .ref o), (1, .int x1), (2, .int x2), (3, .int x3), (4, .int x4), (5, .int x5)] [.int z0] (n, sh, Rf, I, L) post := by
  unfold fOffice_costs_35 at H
  refine ev_istore dOffice_costs_35 (by decide) ?_
  refine ev_iload dOffice_costs_37 rfl ?_
  refine ev_if_eq 66 dOffice_costs_39 (by decide) (fun c1 => ?_) (fun c1 => ?_)
  · have H := H.1 c1
    refine ev_iconst (0) dOffice_costs_66 (by decide) ?_
    exact ev_zret rfl (by decide) dOffice_costs_67 H
  · have H := H.2 c1
    refine ev_iload dOffice_costs_42 rfl ?_
    refine ev_iconst (0) dOffice_costs_44 (by decide) ?_
    refine ev_sipush (9999) dOffice_costs_45 (by decide) ?_
    refine ev_callS [.int x4, .int 0, .int 9999] [] (B' := (0, 0)) (B'' := (0, 0)) hok mmOffice_within mk_Office_116 rfl (Nat.le_of_ble_eq_true rfl) rfl (Nat.le_of_ble_eq_true rfl) dOffice_costs_48 rfl (by decide) H (fun v τ p2 => ?_)
    obtain ⟨r3, I4, L5, rfl, rfl, H⟩ := p2
    refine ev_if_eq 66 dOffice_costs_51 (by decide) (fun c6 => ?_) (fun c6 => ?_)
    · have H := H.1 c6
      refine ev_iconst (0) dOffice_costs_66 (by decide) ?_
      exact ev_zret rfl (by decide) dOffice_costs_67 H
    · have H := H.2 c6
      refine ev_iload dOffice_costs_54 rfl ?_
      refine ev_iconst (0) dOffice_costs_56 (by decide) ?_
      refine ev_sipush (999) dOffice_costs_57 (by decide) ?_
      refine ev_callS [.int x5, .int 0, .int 999] [] (B' := (0, 0)) (B'' := (0, 0)) hok mmOffice_within mk_Office_116 rfl (Nat.le_of_ble_eq_true rfl) rfl (Nat.le_of_ble_eq_true rfl) dOffice_costs_60 rfl (by decide) H (fun v τ p7 => ?_)
      obtain ⟨r8, I9, L10, rfl, rfl, H⟩ := p7
      refine ev_if_ne 68 dOffice_costs_63 (by decide) (fun c11 => ?_) (fun c11 => ?_)
      · have H := H.1 c11
        refine ev_aload_n dOffice_costs_68 rfl ?_
        refine ev_getR hok fk_Office_40 (woOffice hw) (fun _ _ _ => rfl) (wrOffice_5 hw) dOffice_costs_69 ?_
        refine ev_iload_n dOffice_costs_72 rfl ?_
        refine ev_putI hok fk_Office_120 (woTrade (wsOffice_5 hw)) (fun _ _ _ => rfl) rfl rfl dOffice_costs_73 ?_
        generalize eI12 : q_u I9 (o + 46) 2 x1 = I12
        have H := H I12 eI12
        refine ev_aload_n dOffice_costs_76 rfl ?_
        refine ev_getR hok fk_Office_40 (woOffice hw) (fun _ _ _ => rfl) (wrOffice_5 hw) dOffice_costs_77 ?_
        refine ev_iload_n dOffice_costs_80 rfl ?_
        refine ev_putI hok fk_Office_123 (woTrade (wsOffice_5 hw)) (fun _ _ _ => rfl) rfl rfl dOffice_costs_81 ?_
        generalize eI13 : q_u I12 (o + 46) 3 x2 = I13
        have H := H I13 eI13
        refine ev_aload_n dOffice_costs_84 rfl ?_
        refine ev_getR hok fk_Office_40 (woOffice hw) (fun _ _ _ => rfl) (wrOffice_5 hw) dOffice_costs_85 ?_
        refine ev_iload_n dOffice_costs_88 rfl ?_
        refine ev_putI hok fk_Office_126 (woTrade (wsOffice_5 hw)) (fun _ _ _ => rfl) rfl rfl dOffice_costs_89 ?_
        generalize eI14 : q_u I13 (o + 46) 4 x3 = I14
        have H := H I14 eI14
        refine ev_aload_n dOffice_costs_92 rfl ?_
        refine ev_getR hok fk_Office_40 (woOffice hw) (fun _ _ _ => rfl) (wrOffice_5 hw) dOffice_costs_93 ?_
        refine ev_iload dOffice_costs_96 rfl ?_
        refine ev_putI hok fk_Office_129 (woTrade (wsOffice_5 hw)) (fun _ _ _ => rfl) rfl rfl dOffice_costs_98 ?_
        generalize eI15 : q_u I14 (o + 46) 5 x4 = I15
        have H := H I15 eI15
        refine ev_aload_n dOffice_costs_101 rfl ?_
        refine ev_getR hok fk_Office_40 (woOffice hw) (fun _ _ _ => rfl) (wrOffice_5 hw) dOffice_costs_102 ?_
        refine ev_iload dOffice_costs_105 rfl ?_
        refine ev_putI hok fk_Office_132 (woTrade (wsOffice_5 hw)) (fun _ _ _ => rfl) rfl rfl dOffice_costs_107 ?_
        generalize eI16 : q_u I15 (o + 46) 6 x5 = I16
        have H := H I16 eI16
        refine ev_aload_n dOffice_costs_110 rfl ?_
        refine ev_getR hok fk_Office_58 (woOffice hw) (fun _ _ _ => rfl) (wrOffice_8 hw) dOffice_costs_111 ?_
        refine ev_iconst (0) dOffice_costs_114 (by decide) ?_
        refine ev_putI hok fk_Office_79 (woRun (wsOffice_8 hw)) (fun _ _ _ => rfl) (q_bz (Or.inl rfl)) (q_bf (Or.inl rfl)) dOffice_costs_115 ?_
        generalize eI17 : q_u I16 (o + 55) 15 0 = I17
        have H := H I17 eI17
        refine ev_iconst (1) dOffice_costs_118 (by decide) ?_
        exact ev_zret rfl (by decide) dOffice_costs_119 H
      · have H := H.2 c11
        refine ev_iconst (0) dOffice_costs_66 (by decide) ?_
        exact ev_zret rfl (by decide) dOffice_costs_67 H
def fOffice_costs_34 (D : va_G) (cA : FieldType → ClassId) (b : Nat) (E : State → Prop) (o : Nat) (n : Nat) (sh : Nat → qC) (Rf : Nat → Nat → Option Nat) (I : Nat → Nat → Int32) (L : Nat → Nat → Int64) (post : Option Value → qS → Prop) (x1 : Int32) (x2 : Int32) (x3 : Int32) (x4 : Int32) (x5 : Int32) : Prop :=
  fOffice_costs_35 D cA b E o n sh Rf I L post x1 x2 x3 x4 x5 0
set_option maxHeartbeats 4000000 in
set_option maxRecDepth 20000 in
theorem sOffice_costs_34 {D : va_G} {cA : FieldType → ClassId} {b : Nat} {E : State → Prop} (o : Nat) (n : Nat) (sh : Nat → qC) (Rf : Nat → Nat → Option Nat) (I : Nat → Nat → Int32) (L : Nat → Nat → Int64) (post : Option Value → qS → Prop) (x1 : Int32) (x2 : Int32) (x3 : Int32) (x4 : Int32) (x5 : Int32) (hok : q_ok (qGG D cA b E)) (hw : WfOffice (qGG D cA b E) n sh Rf o) (H : fOffice_costs_34 D cA b E o n sh Rf I L post x1 x2 x3 x4 x5) : Ev (qGG D cA b E) mOffice_costs 1 (0, 0) 34 [(0, .ref o), (1, .int x1), (2, .int x2), (3, .int x3), (4, .int x4), (5, .int x5)] [] (n, sh, Rf, I, L) post := by
  unfold fOffice_costs_34 at H
  refine ev_iconst (0) dOffice_costs_34 (by decide) ?_
  exact ev_sub [(0, .ref o), (1, .int x1), (2, .int x2), (3, .int x3), (4, .int x4), (5, .int x5)] rfl (sOffice_costs_35 o n sh Rf I L post x1 x2 x3 x4 x5 0 hok hw H)
def fOffice_costs_0 (D : va_G) (cA : FieldType → ClassId) (b : Nat) (E : State → Prop) (o : Nat) (n : Nat) (sh : Nat → qC) (Rf : Nat → Nat → Option Nat) (I : Nat → Nat → Int32) (L : Nat → Nat → Int64) (post : Option Value → qS → Prop) (x1 : Int32) (x2 : Int32) (x3 : Int32) (x4 : Int32) (x5 : Int32) : Prop :=
  Ev (qGG D cA b E) mOffice_within 0 (0, 0) 0 (lv_args 0 [.int x1, .int 0, .int 99]) [] (n, sh, Rf, I, L) (fun v τ => ∃ (r2 : Int32) (I3 : Nat → Nat → Int32) (L4 : Nat → Nat → Int64), v = some (.int r2) ∧ τ = (n, sh, Rf, I3, L4) ∧ ((r2 = 0 → fOffice_costs_34 D cA b E o n sh Rf I3 L4 post x1 x2 x3 x4 x5) ∧ (¬ r2 = 0 → Ev (qGG D cA b E) mOffice_within 0 (0, 0) 0 (lv_args 0 [.int x2, .int 1, .int 50]) [] (n, sh, Rf, I3, L4) (fun v τ => ∃ (r7 : Int32) (I8 : Nat → Nat → Int32) (L9 : Nat → Nat → Int64), v = some (.int r7) ∧ τ = (n, sh, Rf, I8, L9) ∧ ((r7 = 0 → fOffice_costs_34 D cA b E o n sh Rf I8 L9 post x1 x2 x3 x4 x5) ∧ (¬ r7 = 0 → Ev (qGG D cA b E) mOffice_within 0 (0, 0) 0 (lv_args 0 [.int x3, .int 0, .int 99]) [] (n, sh, Rf, I8, L9) (fun v τ => ∃ (r12 : Int32) (I13 : Nat → Nat → Int32) (L14 : Nat → Nat → Int64), v = some (.int r12) ∧ τ = (n, sh, Rf, I13, L14) ∧ ((r12 = 0 → fOffice_costs_34 D cA b E o n sh Rf I13 L14 post x1 x2 x3 x4 x5) ∧ (¬ r12 = 0 → fOffice_costs_35 D cA b E o n sh Rf I13 L14 post x1 x2 x3 x4 x5 1)))))))))
set_option maxHeartbeats 4000000 in
set_option maxRecDepth 20000 in
theorem sOffice_costs_0 {D : va_G} {cA : FieldType → ClassId} {b : Nat} {E : State → Prop} (o : Nat) (n : Nat) (sh : Nat → qC) (Rf : Nat → Nat → Option Nat) (I : Nat → Nat → Int32) (L : Nat → Nat → Int64) (post : Option Value → qS → Prop) (x1 : Int32) (x2 : Int32) (x3 : Int32) (x4 : Int32) (x5 : Int32) (hok : q_ok (qGG D cA b E)) (hw : WfOffice (qGG D cA b E) n sh Rf o) (H : fOffice_costs_0 D cA b E o n sh Rf I L post x1 x2 x3 x4 x5) : Ev (qGG D cA b E) mOffice_costs 1 (0, 0) 0 [(0, .ref o), (1, .int x1), (2, .int x2), (3, .int x3), (4, .int x4), (5, .int x5)] [] (n, sh, Rf, I, L) post := by
  unfold fOffice_costs_0 at H
  refine ev_iload_n dOffice_costs_0 rfl ?_
  refine ev_iconst (0) dOffice_costs_1 (by decide) ?_
  refine ev_bipush (99) dOffice_costs_2 (by decide) ?_
  refine ev_callS [.int x1, .int 0, .int 99] [] (B' := (0, 0)) (B'' := (0, 0)) hok mmOffice_within mk_Office_116 rfl (Nat.le_of_ble_eq_true rfl) rfl (Nat.le_of_ble_eq_true rfl) dOffice_costs_4 rfl (by decide) H (fun v τ p1 => ?_)
  obtain ⟨r2, I3, L4, rfl, rfl, H⟩ := p1
  refine ev_if_eq 34 dOffice_costs_7 (by decide) (fun c5 => ?_) (fun c5 => ?_)
  · have H := H.1 c5
    exact ev_sub [(0, .ref o), (1, .int x1), (2, .int x2), (3, .int x3), (4, .int x4), (5, .int x5)] rfl (sOffice_costs_34 o n sh Rf I3 L4 post x1 x2 x3 x4 x5 hok hw H)
  · have H := H.2 c5
    refine ev_iload_n dOffice_costs_10 rfl ?_
    refine ev_iconst (1) dOffice_costs_11 (by decide) ?_
    refine ev_bipush (50) dOffice_costs_12 (by decide) ?_
    refine ev_callS [.int x2, .int 1, .int 50] [] (B' := (0, 0)) (B'' := (0, 0)) hok mmOffice_within mk_Office_116 rfl (Nat.le_of_ble_eq_true rfl) rfl (Nat.le_of_ble_eq_true rfl) dOffice_costs_14 rfl (by decide) H (fun v τ p6 => ?_)
    obtain ⟨r7, I8, L9, rfl, rfl, H⟩ := p6
    refine ev_if_eq 34 dOffice_costs_17 (by decide) (fun c10 => ?_) (fun c10 => ?_)
    · have H := H.1 c10
      exact ev_sub [(0, .ref o), (1, .int x1), (2, .int x2), (3, .int x3), (4, .int x4), (5, .int x5)] rfl (sOffice_costs_34 o n sh Rf I8 L9 post x1 x2 x3 x4 x5 hok hw H)
    · have H := H.2 c10
      refine ev_iload_n dOffice_costs_20 rfl ?_
      refine ev_iconst (0) dOffice_costs_21 (by decide) ?_
      refine ev_bipush (99) dOffice_costs_22 (by decide) ?_
      refine ev_callS [.int x3, .int 0, .int 99] [] (B' := (0, 0)) (B'' := (0, 0)) hok mmOffice_within mk_Office_116 rfl (Nat.le_of_ble_eq_true rfl) rfl (Nat.le_of_ble_eq_true rfl) dOffice_costs_24 rfl (by decide) H (fun v τ p11 => ?_)
      obtain ⟨r12, I13, L14, rfl, rfl, H⟩ := p11
      refine ev_if_eq 34 dOffice_costs_27 (by decide) (fun c15 => ?_) (fun c15 => ?_)
      · have H := H.1 c15
        exact ev_sub [(0, .ref o), (1, .int x1), (2, .int x2), (3, .int x3), (4, .int x4), (5, .int x5)] rfl (sOffice_costs_34 o n sh Rf I13 L14 post x1 x2 x3 x4 x5 hok hw H)
      · have H := H.2 c15
        refine ev_iconst (1) dOffice_costs_30 (by decide) ?_
        refine ev_goto 35 dOffice_costs_31 (by decide) ?_
        exact ev_sub [(0, .ref o), (1, .int x1), (2, .int x2), (3, .int x3), (4, .int x4), (5, .int x5)] rfl (sOffice_costs_35 o n sh Rf I13 L14 post x1 x2 x3 x4 x5 1 hok hw H)
def fOffice_days_0 (D : va_G) (cA : FieldType → ClassId) (b : Nat) (E : State → Prop) (o : Nat) (n : Nat) (sh : Nat → qC) (Rf : Nat → Nat → Option Nat) (I : Nat → Nat → Int32) (L : Nat → Nat → Int64) (post : Option Value → qS → Prop) (x1 : Int32) (x2 : Int32) (uo_1 : Nat) : Prop :=
  Ev (qGG D cA b E) mLand_daysBetween 0 (0, 0) 0 (lv_args 0 [.ref uo_1, .int x1, .int x2]) [] (n, sh, Rf, I, L) (fun v τ => ∃ (r2 : Int32) (I3 : Nat → Nat → Int32) (L4 : Nat → Nat → Int64), v = some (.int r2) ∧ τ = (n, sh, Rf, I3, L4) ∧ post (some (.int r2)) (n, sh, Rf, I3, L4))
set_option maxHeartbeats 4000000 in
set_option maxRecDepth 20000 in
theorem sOffice_days_0 {D : va_G} {cA : FieldType → ClassId} {b : Nat} {E : State → Prop} (o : Nat) (n : Nat) (sh : Nat → qC) (Rf : Nat → Nat → Option Nat) (I : Nat → Nat → Int32) (L : Nat → Nat → Int64) (post : Option Value → qS → Prop) (x1 : Int32) (x2 : Int32) (uo_1 : Nat) (hok : q_ok (qGG D cA b E)) (hw : WfOffice (qGG D cA b E) n sh Rf o) (huo_1 : Rf o 1 = some uo_1) (hwuo_1 : WfLand (qGG D cA b E) n sh Rf uo_1) (H : fOffice_days_0 D cA b E o n sh Rf I L post x1 x2 uo_1) : Ev (qGG D cA b E) mOffice_days 1 (0, 0) 0 [(0, .ref o), (1, .int x1), (2, .int x2)] [] (n, sh, Rf, I, L) post := by
  unfold fOffice_days_0 at H
  refine ev_aload_n dOffice_days_0 rfl ?_
  refine ev_getR hok fk_Office_19 (woOffice hw) (fun _ _ _ => rfl) huo_1 dOffice_days_1 ?_
  refine ev_iload_n dOffice_days_4 rfl ?_
  refine ev_iload_n dOffice_days_5 rfl ?_
  refine ev_callV [.int x1, .int x2] [] (B' := (0, 0)) (B'' := (0, 0)) hok mmLand_daysBetween mk_Office_105 (ci := 1) rfl rfl (woLand hwuo_1) rfl (Nat.le_of_ble_eq_true rfl) rfl (Nat.le_of_ble_eq_true rfl) dOffice_days_6 rfl (by decide) H (fun v τ p1 => ?_)
  obtain ⟨r2, I3, L4, rfl, rfl, H⟩ := p1
  exact ev_iret rfl dOffice_days_9 H
def fOffice_feed_0 (D : va_G) (cA : FieldType → ClassId) (b : Nat) (E : State → Prop) (o : Nat) (n : Nat) (sh : Nat → qC) (Rf : Nat → Nat → Option Nat) (I : Nat → Nat → Int32) (L : Nat → Nat → Int64) (post : Option Value → qS → Prop) (x1 : Int32) (x2 : Int32) (x3 : Int32) (x4 : Int32) (x5 : Int32) : Prop :=
  ((((I (o + 1) 6) + 20) ≤ 1600 → Ev (qGG D cA b E) mTape_append 0 (0, 0) 0 (lv_args 0 [.ref ((o + 1)), .int x1]) [] (n, sh, Rf, I, L) (fun v τ => ∃ (I4 : Nat → Nat → Int32) (L5 : Nat → Nat → Int64), v = none ∧ τ = (n, sh, Rf, I4, L5) ∧ Ev (qGG D cA b E) mTape_append 0 (0, 0) 0 (lv_args 0 [.ref ((o + 1)), .int x2]) [] (n, sh, Rf, I4, L5) (fun v τ => ∃ (I8 : Nat → Nat → Int32) (L9 : Nat → Nat → Int64), v = none ∧ τ = (n, sh, Rf, I8, L9) ∧ Ev (qGG D cA b E) mTape_append 0 (0, 0) 0 (lv_args 0 [.ref ((o + 1)), .int x3]) [] (n, sh, Rf, I8, L9) (fun v τ => ∃ (I12 : Nat → Nat → Int32) (L13 : Nat → Nat → Int64), v = none ∧ τ = (n, sh, Rf, I12, L13) ∧ Ev (qGG D cA b E) mTape_append 0 (0, 0) 0 (lv_args 0 [.ref ((o + 1)), .int x4]) [] (n, sh, Rf, I12, L13) (fun v τ => ∃ (I16 : Nat → Nat → Int32) (L17 : Nat → Nat → Int64), v = none ∧ τ = (n, sh, Rf, I16, L17) ∧ Ev (qGG D cA b E) mTape_append 0 (0, 0) 0 (lv_args 0 [.ref ((o + 1)), .int x5]) [] (n, sh, Rf, I16, L17) (fun v τ => ∃ (I20 : Nat → Nat → Int32) (L21 : Nat → Nat → Int64), v = none ∧ τ = (n, sh, Rf, I20, L21) ∧ post (some (.int ((I20 (o + 1) 6)))) (n, sh, Rf, I20, L21))))))) ∧ (¬ ((I (o + 1) 6) + 20) ≤ 1600 → post (some (.int ((-1)))) (n, sh, Rf, I, L)))
set_option maxHeartbeats 4000000 in
set_option maxRecDepth 20000 in
theorem sOffice_feed_0 {D : va_G} {cA : FieldType → ClassId} {b : Nat} {E : State → Prop} (o : Nat) (n : Nat) (sh : Nat → qC) (Rf : Nat → Nat → Option Nat) (I : Nat → Nat → Int32) (L : Nat → Nat → Int64) (post : Option Value → qS → Prop) (x1 : Int32) (x2 : Int32) (x3 : Int32) (x4 : Int32) (x5 : Int32) (hok : q_ok (qGG D cA b E)) (hw : WfOffice (qGG D cA b E) n sh Rf o) (H : fOffice_feed_0 D cA b E o n sh Rf I L post x1 x2 x3 x4 x5) : Ev (qGG D cA b E) mOffice_feed 1 (0, 0) 0 [(0, .ref o), (1, .int x1), (2, .int x2), (3, .int x3), (4, .int x4), (5, .int x5)] [] (n, sh, Rf, I, L) post := by
  unfold fOffice_feed_0 at H
  refine ev_aload_n dOffice_feed_0 rfl ?_
  refine ev_getR hok fk_Office_12 (woOffice hw) (fun _ _ _ => rfl) (wrOffice_0 hw) dOffice_feed_1 ?_
  refine ev_getI hok fk_Office_65 (woTape (wsOffice_0 hw)) (fun _ _ _ => rfl) dOffice_feed_4 ?_
  refine ev_bipush (20) dOffice_feed_7 (by decide) ?_
  refine ev_iadd dOffice_feed_9 ?_
  refine ev_sipush (1600) dOffice_feed_10 (by decide) ?_
  refine ev_icmp_le 18 dOffice_feed_13 (by decide) (fun c1 => ?_) (fun c1 => ?_)
  · have H := H.1 c1
    refine ev_aload_n dOffice_feed_18 rfl ?_
    refine ev_getR hok fk_Office_12 (woOffice hw) (fun _ _ _ => rfl) (wrOffice_0 hw) dOffice_feed_19 ?_
    refine ev_iload_n dOffice_feed_22 rfl ?_
    refine ev_callV [.int x1] [] (B' := (0, 0)) (B'' := (0, 0)) hok mmTape_append mk_Office_68 (ci := 8) rfl rfl (woTape (wsOffice_0 hw)) rfl (Nat.le_of_ble_eq_true rfl) rfl (Nat.le_of_ble_eq_true rfl) dOffice_feed_23 rfl (by decide) H (fun v τ p2 => ?_)
    obtain ⟨I4, L5, rfl, rfl, H⟩ := p2
    refine ev_aload_n dOffice_feed_26 rfl ?_
    refine ev_getR hok fk_Office_12 (woOffice hw) (fun _ _ _ => rfl) (wrOffice_0 hw) dOffice_feed_27 ?_
    refine ev_iload_n dOffice_feed_30 rfl ?_
    refine ev_callV [.int x2] [] (B' := (0, 0)) (B'' := (0, 0)) hok mmTape_append mk_Office_68 (ci := 8) rfl rfl (woTape (wsOffice_0 hw)) rfl (Nat.le_of_ble_eq_true rfl) rfl (Nat.le_of_ble_eq_true rfl) dOffice_feed_31 rfl (by decide) H (fun v τ p6 => ?_)
    obtain ⟨I8, L9, rfl, rfl, H⟩ := p6
    refine ev_aload_n dOffice_feed_34 rfl ?_
    refine ev_getR hok fk_Office_12 (woOffice hw) (fun _ _ _ => rfl) (wrOffice_0 hw) dOffice_feed_35 ?_
    refine ev_iload_n dOffice_feed_38 rfl ?_
    refine ev_callV [.int x3] [] (B' := (0, 0)) (B'' := (0, 0)) hok mmTape_append mk_Office_68 (ci := 8) rfl rfl (woTape (wsOffice_0 hw)) rfl (Nat.le_of_ble_eq_true rfl) rfl (Nat.le_of_ble_eq_true rfl) dOffice_feed_39 rfl (by decide) H (fun v τ p10 => ?_)
    obtain ⟨I12, L13, rfl, rfl, H⟩ := p10
    refine ev_aload_n dOffice_feed_42 rfl ?_
    refine ev_getR hok fk_Office_12 (woOffice hw) (fun _ _ _ => rfl) (wrOffice_0 hw) dOffice_feed_43 ?_
    refine ev_iload dOffice_feed_46 rfl ?_
    refine ev_callV [.int x4] [] (B' := (0, 0)) (B'' := (0, 0)) hok mmTape_append mk_Office_68 (ci := 8) rfl rfl (woTape (wsOffice_0 hw)) rfl (Nat.le_of_ble_eq_true rfl) rfl (Nat.le_of_ble_eq_true rfl) dOffice_feed_48 rfl (by decide) H (fun v τ p14 => ?_)
    obtain ⟨I16, L17, rfl, rfl, H⟩ := p14
    refine ev_aload_n dOffice_feed_51 rfl ?_
    refine ev_getR hok fk_Office_12 (woOffice hw) (fun _ _ _ => rfl) (wrOffice_0 hw) dOffice_feed_52 ?_
    refine ev_iload dOffice_feed_55 rfl ?_
    refine ev_callV [.int x5] [] (B' := (0, 0)) (B'' := (0, 0)) hok mmTape_append mk_Office_68 (ci := 8) rfl rfl (woTape (wsOffice_0 hw)) rfl (Nat.le_of_ble_eq_true rfl) rfl (Nat.le_of_ble_eq_true rfl) dOffice_feed_57 rfl (by decide) H (fun v τ p18 => ?_)
    obtain ⟨I20, L21, rfl, rfl, H⟩ := p18
    refine ev_aload_n dOffice_feed_60 rfl ?_
    refine ev_getR hok fk_Office_12 (woOffice hw) (fun _ _ _ => rfl) (wrOffice_0 hw) dOffice_feed_61 ?_
    refine ev_getI hok fk_Office_65 (woTape (wsOffice_0 hw)) (fun _ _ _ => rfl) dOffice_feed_64 ?_
    exact ev_iret rfl dOffice_feed_67 H
  · have H := H.2 c1
    refine ev_iconst (-1) dOffice_feed_16 (by decide) ?_
    exact ev_iret rfl dOffice_feed_17 H
def fOffice_fort_0 (D : va_G) (cA : FieldType → ClassId) (b : Nat) (E : State → Prop) (o : Nat) (n : Nat) (sh : Nat → qC) (Rf : Nat → Nat → Option Nat) (I : Nat → Nat → Int32) (L : Nat → Nat → Int64) (post : Option Value → qS → Prop) (x1 : Int32) (x2 : Int32) (x3 : Int32) (uo_1 : Nat) : Prop :=
  Ev (qGG D cA b E) mOffice_ranMonth 0 (0, 0) 0 (lv_args 0 [.ref o, .int x2]) [] (n, sh, Rf, I, L) (fun v τ => ∃ (r2 : Int32) (I3 : Nat → Nat → Int32) (L4 : Nat → Nat → Int64), v = some (.int r2) ∧ τ = (n, sh, Rf, I3, L4) ∧ ((r2 = 0 → post (some (.int ((-1)))) (n, sh, Rf, I3, L4)) ∧ (¬ r2 = 0 → ((x1 < 0 → post (some (.int ((-1)))) (n, sh, Rf, I3, L4)) ∧ (¬ x1 < 0 → (((I3 uo_1 1) ≤ x1 → post (some (.int ((-1)))) (n, sh, Rf, I3, L4)) ∧ (¬ (I3 uo_1 1) ≤ x1 → Ev (qGG D cA b E) mOffice_within 0 (0, 0) 0 (lv_args 0 [.int x3, .int 0, .int 1]) [] (n, sh, Rf, I3, L4) (fun v τ => ∃ (r9 : Int32) (I10 : Nat → Nat → Int32) (L11 : Nat → Nat → Int64), v = some (.int r9) ∧ τ = (n, sh, Rf, I10, L11) ∧ ((¬ r9 = 0 → vp_in ((((x2 * 3) + x1) * 2) + x3) 1440 ∧ post (some (.int ((I10 (((o + 55) + 53) + 1) (((((x2 * 3) + x1) * 2) + x3) : Int32).toNatClampNeg)))) (n, sh, Rf, I10, L11)) ∧ (r9 = 0 → post (some (.int ((-1)))) (n, sh, Rf, I10, L11)))))))))))
set_option maxHeartbeats 4000000 in
set_option maxRecDepth 20000 in
theorem sOffice_fort_0 {D : va_G} {cA : FieldType → ClassId} {b : Nat} {E : State → Prop} (o : Nat) (n : Nat) (sh : Nat → qC) (Rf : Nat → Nat → Option Nat) (I : Nat → Nat → Int32) (L : Nat → Nat → Int64) (post : Option Value → qS → Prop) (x1 : Int32) (x2 : Int32) (x3 : Int32) (uo_1 : Nat) (hok : q_ok (qGG D cA b E)) (hw : WfOffice (qGG D cA b E) n sh Rf o) (huo_1 : Rf o 1 = some uo_1) (hwuo_1 : WfLand (qGG D cA b E) n sh Rf uo_1) (H : fOffice_fort_0 D cA b E o n sh Rf I L post x1 x2 x3 uo_1) : Ev (qGG D cA b E) mOffice_fort 1 (0, 0) 0 [(0, .ref o), (1, .int x1), (2, .int x2), (3, .int x3)] [] (n, sh, Rf, I, L) post := by
  unfold fOffice_fort_0 at H
  refine ev_aload_n dOffice_fort_0 rfl ?_
  refine ev_iload_n dOffice_fort_1 rfl ?_
  refine ev_callV [.int x2] [] (B' := (0, 0)) (B'' := (0, 0)) hok mmOffice_ranMonth mk_Office_168 (ci := 11) rfl rfl (woOffice hw) rfl (Nat.le_of_ble_eq_true rfl) rfl (Nat.le_of_ble_eq_true rfl) dOffice_fort_2 rfl (by decide) H (fun v τ p1 => ?_)
  obtain ⟨r2, I3, L4, rfl, rfl, H⟩ := p1
  refine ev_if_eq 32 dOffice_fort_5 (by decide) (fun c5 => ?_) (fun c5 => ?_)
  · have H := H.1 c5
    refine ev_iconst (-1) dOffice_fort_32 (by decide) ?_
    exact ev_iret rfl dOffice_fort_33 H
  · have H := H.2 c5
    refine ev_iload_n dOffice_fort_8 rfl ?_
    refine ev_if_lt 32 dOffice_fort_9 (by decide) (fun c6 => ?_) (fun c6 => ?_)
    · have H := H.1 c6
      refine ev_iconst (-1) dOffice_fort_32 (by decide) ?_
      exact ev_iret rfl dOffice_fort_33 H
    · have H := H.2 c6
      refine ev_iload_n dOffice_fort_12 rfl ?_
      refine ev_aload_n dOffice_fort_13 rfl ?_
      refine ev_getR hok fk_Office_19 (woOffice hw) (fun _ _ _ => rfl) huo_1 dOffice_fort_14 ?_
      refine ev_getI hok fk_Office_86 (woLand hwuo_1) (fun _ _ _ => rfl) dOffice_fort_17 ?_
      refine ev_icmp_ge 32 dOffice_fort_20 (by decide) (fun c7 => ?_) (fun c7 => ?_)
      · have H := H.1 c7
        refine ev_iconst (-1) dOffice_fort_32 (by decide) ?_
        exact ev_iret rfl dOffice_fort_33 H
      · have H := H.2 c7
        refine ev_iload_n dOffice_fort_23 rfl ?_
        refine ev_iconst (0) dOffice_fort_24 (by decide) ?_
        refine ev_iconst (1) dOffice_fort_25 (by decide) ?_
        refine ev_callS [.int x3, .int 0, .int 1] [] (B' := (0, 0)) (B'' := (0, 0)) hok mmOffice_within mk_Office_116 rfl (Nat.le_of_ble_eq_true rfl) rfl (Nat.le_of_ble_eq_true rfl) dOffice_fort_26 rfl (by decide) H (fun v τ p8 => ?_)
        obtain ⟨r9, I10, L11, rfl, rfl, H⟩ := p8
        refine ev_if_ne 34 dOffice_fort_29 (by decide) (fun c12 => ?_) (fun c12 => ?_)
        · have H := H.1 c12
          refine ev_aload_n dOffice_fort_34 rfl ?_
          refine ev_getR hok fk_Office_58 (woOffice hw) (fun _ _ _ => rfl) (wrOffice_8 hw) dOffice_fort_35 ?_
          refine ev_getR hok fk_Office_172 (woRun (wsOffice_8 hw)) (fun _ _ _ => rfl) (wrRun_6 (wsOffice_8 hw)) dOffice_fort_38 ?_
          refine ev_getR hok fk_Office_176 (woRecords (wsRun_6 (wsOffice_8 hw))) (fun _ _ _ => rfl) (wrRecords_0 (wsRun_6 (wsOffice_8 hw))) dOffice_fort_41 ?_
          refine ev_iload_n dOffice_fort_44 rfl ?_
          refine ev_iconst (3) dOffice_fort_45 (by decide) ?_
          refine ev_imul dOffice_fort_46 ?_
          refine ev_iload_n dOffice_fort_47 rfl ?_
          refine ev_iadd dOffice_fort_48 ?_
          refine ev_iconst (2) dOffice_fort_49 (by decide) ?_
          refine ev_imul dOffice_fort_50 ?_
          refine ev_iload_n dOffice_fort_51 rfl ?_
          refine ev_iadd dOffice_fort_52 ?_
          obtain ⟨h13, H⟩ := H
          refine ev_iald hok (waRecords_0 (wsRun_6 (wsOffice_8 hw))) h13 dOffice_fort_53 ?_
          exact ev_iret rfl dOffice_fort_54 H
        · have H := H.2 c12
          refine ev_iconst (-1) dOffice_fort_32 (by decide) ?_
          exact ev_iret rfl dOffice_fort_33 H
def fOffice_pan_0 (D : va_G) (cA : FieldType → ClassId) (b : Nat) (E : State → Prop) (o : Nat) (n : Nat) (sh : Nat → qC) (Rf : Nat → Nat → Option Nat) (I : Nat → Nat → Int32) (L : Nat → Nat → Int64) (post : Option Value → qS → Prop) (x1 : Int32) (x2 : Int32) (x3 : Int32) (uo_1 : Nat) : Prop :=
  Ev (qGG D cA b E) mOffice_ranMonth 0 (0, 0) 0 (lv_args 0 [.ref o, .int x2]) [] (n, sh, Rf, I, L) (fun v τ => ∃ (r2 : Int32) (I3 : Nat → Nat → Int32) (L4 : Nat → Nat → Int64), v = some (.int r2) ∧ τ = (n, sh, Rf, I3, L4) ∧ ((r2 = 0 → post (some (.int ((-1)))) (n, sh, Rf, I3, L4)) ∧ (¬ r2 = 0 → ((x1 < 0 → post (some (.int ((-1)))) (n, sh, Rf, I3, L4)) ∧ (¬ x1 < 0 → (((I3 uo_1 2) ≤ x1 → post (some (.int ((-1)))) (n, sh, Rf, I3, L4)) ∧ (¬ (I3 uo_1 2) ≤ x1 → Ev (qGG D cA b E) mOffice_within 0 (0, 0) 0 (lv_args 0 [.int x3, .int 0, .int 1]) [] (n, sh, Rf, I3, L4) (fun v τ => ∃ (r9 : Int32) (I10 : Nat → Nat → Int32) (L11 : Nat → Nat → Int64), v = some (.int r9) ∧ τ = (n, sh, Rf, I10, L11) ∧ ((¬ r9 = 0 → vp_in ((((x2 * 3) + x1) * 2) + x3) 1440 ∧ post (some (.int ((I10 (((o + 55) + 53) + 2) (((((x2 * 3) + x1) * 2) + x3) : Int32).toNatClampNeg)))) (n, sh, Rf, I10, L11)) ∧ (r9 = 0 → post (some (.int ((-1)))) (n, sh, Rf, I10, L11)))))))))))
set_option maxHeartbeats 4000000 in
set_option maxRecDepth 20000 in
theorem sOffice_pan_0 {D : va_G} {cA : FieldType → ClassId} {b : Nat} {E : State → Prop} (o : Nat) (n : Nat) (sh : Nat → qC) (Rf : Nat → Nat → Option Nat) (I : Nat → Nat → Int32) (L : Nat → Nat → Int64) (post : Option Value → qS → Prop) (x1 : Int32) (x2 : Int32) (x3 : Int32) (uo_1 : Nat) (hok : q_ok (qGG D cA b E)) (hw : WfOffice (qGG D cA b E) n sh Rf o) (huo_1 : Rf o 1 = some uo_1) (hwuo_1 : WfLand (qGG D cA b E) n sh Rf uo_1) (H : fOffice_pan_0 D cA b E o n sh Rf I L post x1 x2 x3 uo_1) : Ev (qGG D cA b E) mOffice_pan 1 (0, 0) 0 [(0, .ref o), (1, .int x1), (2, .int x2), (3, .int x3)] [] (n, sh, Rf, I, L) post := by
  unfold fOffice_pan_0 at H
  refine ev_aload_n dOffice_pan_0 rfl ?_
  refine ev_iload_n dOffice_pan_1 rfl ?_
  refine ev_callV [.int x2] [] (B' := (0, 0)) (B'' := (0, 0)) hok mmOffice_ranMonth mk_Office_168 (ci := 11) rfl rfl (woOffice hw) rfl (Nat.le_of_ble_eq_true rfl) rfl (Nat.le_of_ble_eq_true rfl) dOffice_pan_2 rfl (by decide) H (fun v τ p1 => ?_)
  obtain ⟨r2, I3, L4, rfl, rfl, H⟩ := p1
  refine ev_if_eq 32 dOffice_pan_5 (by decide) (fun c5 => ?_) (fun c5 => ?_)
  · have H := H.1 c5
    refine ev_iconst (-1) dOffice_pan_32 (by decide) ?_
    exact ev_iret rfl dOffice_pan_33 H
  · have H := H.2 c5
    refine ev_iload_n dOffice_pan_8 rfl ?_
    refine ev_if_lt 32 dOffice_pan_9 (by decide) (fun c6 => ?_) (fun c6 => ?_)
    · have H := H.1 c6
      refine ev_iconst (-1) dOffice_pan_32 (by decide) ?_
      exact ev_iret rfl dOffice_pan_33 H
    · have H := H.2 c6
      refine ev_iload_n dOffice_pan_12 rfl ?_
      refine ev_aload_n dOffice_pan_13 rfl ?_
      refine ev_getR hok fk_Office_19 (woOffice hw) (fun _ _ _ => rfl) huo_1 dOffice_pan_14 ?_
      refine ev_getI hok fk_Office_89 (woLand hwuo_1) (fun _ _ _ => rfl) dOffice_pan_17 ?_
      refine ev_icmp_ge 32 dOffice_pan_20 (by decide) (fun c7 => ?_) (fun c7 => ?_)
      · have H := H.1 c7
        refine ev_iconst (-1) dOffice_pan_32 (by decide) ?_
        exact ev_iret rfl dOffice_pan_33 H
      · have H := H.2 c7
        refine ev_iload_n dOffice_pan_23 rfl ?_
        refine ev_iconst (0) dOffice_pan_24 (by decide) ?_
        refine ev_iconst (1) dOffice_pan_25 (by decide) ?_
        refine ev_callS [.int x3, .int 0, .int 1] [] (B' := (0, 0)) (B'' := (0, 0)) hok mmOffice_within mk_Office_116 rfl (Nat.le_of_ble_eq_true rfl) rfl (Nat.le_of_ble_eq_true rfl) dOffice_pan_26 rfl (by decide) H (fun v τ p8 => ?_)
        obtain ⟨r9, I10, L11, rfl, rfl, H⟩ := p8
        refine ev_if_ne 34 dOffice_pan_29 (by decide) (fun c12 => ?_) (fun c12 => ?_)
        · have H := H.1 c12
          refine ev_aload_n dOffice_pan_34 rfl ?_
          refine ev_getR hok fk_Office_58 (woOffice hw) (fun _ _ _ => rfl) (wrOffice_8 hw) dOffice_pan_35 ?_
          refine ev_getR hok fk_Office_172 (woRun (wsOffice_8 hw)) (fun _ _ _ => rfl) (wrRun_6 (wsOffice_8 hw)) dOffice_pan_38 ?_
          refine ev_getR hok fk_Office_180 (woRecords (wsRun_6 (wsOffice_8 hw))) (fun _ _ _ => rfl) (wrRecords_1 (wsRun_6 (wsOffice_8 hw))) dOffice_pan_41 ?_
          refine ev_iload_n dOffice_pan_44 rfl ?_
          refine ev_iconst (3) dOffice_pan_45 (by decide) ?_
          refine ev_imul dOffice_pan_46 ?_
          refine ev_iload_n dOffice_pan_47 rfl ?_
          refine ev_iadd dOffice_pan_48 ?_
          refine ev_iconst (2) dOffice_pan_49 (by decide) ?_
          refine ev_imul dOffice_pan_50 ?_
          refine ev_iload_n dOffice_pan_51 rfl ?_
          refine ev_iadd dOffice_pan_52 ?_
          obtain ⟨h13, H⟩ := H
          refine ev_iald hok (waRecords_1 (wsRun_6 (wsOffice_8 hw))) h13 dOffice_pan_53 ?_
          exact ev_iret rfl dOffice_pan_54 H
        · have H := H.2 c12
          refine ev_iconst (-1) dOffice_pan_32 (by decide) ?_
          exact ev_iret rfl dOffice_pan_33 H
def fOffice_paper_0 (D : va_G) (cA : FieldType → ClassId) (b : Nat) (E : State → Prop) (o : Nat) (n : Nat) (sh : Nat → qC) (Rf : Nat → Nat → Option Nat) (I : Nat → Nat → Int32) (L : Nat → Nat → Int64) (post : Option Value → qS → Prop) (x1 : Int32) (x2 : Int32) : Prop :=
  (((I (o + 55) 15) = 0 → post (some (.int ((-1)))) (n, sh, Rf, I, L)) ∧ (¬ (I (o + 55) 15) = 0 → ((x1 < 0 → post (some (.int ((-1)))) (n, sh, Rf, I, L)) ∧ (¬ x1 < 0 → ((x1 < (I ((o + 55) + 31) 12) → Ev (qGG D cA b E) mPapers_detail 0 (0, 0) 0 (lv_args 0 [.ref (((o + 55) + 31)), .int x1, .int x2]) [] (n, sh, Rf, I, L) (fun v τ => ∃ (r5 : Int32) (I6 : Nat → Nat → Int32) (L7 : Nat → Nat → Int64), v = some (.int r5) ∧ τ = (n, sh, Rf, I6, L7) ∧ post (some (.int r5)) (n, sh, Rf, I6, L7))) ∧ (¬ x1 < (I ((o + 55) + 31) 12) → post (some (.int ((-1)))) (n, sh, Rf, I, L)))))))
set_option maxHeartbeats 4000000 in
set_option maxRecDepth 20000 in
theorem sOffice_paper_0 {D : va_G} {cA : FieldType → ClassId} {b : Nat} {E : State → Prop} (o : Nat) (n : Nat) (sh : Nat → qC) (Rf : Nat → Nat → Option Nat) (I : Nat → Nat → Int32) (L : Nat → Nat → Int64) (post : Option Value → qS → Prop) (x1 : Int32) (x2 : Int32) (hok : q_ok (qGG D cA b E)) (hw : WfOffice (qGG D cA b E) n sh Rf o) (H : fOffice_paper_0 D cA b E o n sh Rf I L post x1 x2) : Ev (qGG D cA b E) mOffice_paper 1 (0, 0) 0 [(0, .ref o), (1, .int x1), (2, .int x2)] [] (n, sh, Rf, I, L) post := by
  unfold fOffice_paper_0 at H
  refine ev_aload_n dOffice_paper_0 rfl ?_
  refine ev_getR hok fk_Office_58 (woOffice hw) (fun _ _ _ => rfl) (wrOffice_8 hw) dOffice_paper_1 ?_
  refine ev_getI hok fk_Office_79 (woRun (wsOffice_8 hw)) (fun _ _ _ => rfl) dOffice_paper_4 ?_
  refine ev_if_eq 28 dOffice_paper_7 (by decide) (fun c1 => ?_) (fun c1 => ?_)
  · have H := H.1 c1
    refine ev_iconst (-1) dOffice_paper_28 (by decide) ?_
    exact ev_iret rfl dOffice_paper_29 H
  · have H := H.2 c1
    refine ev_iload_n dOffice_paper_10 rfl ?_
    refine ev_if_lt 28 dOffice_paper_11 (by decide) (fun c2 => ?_) (fun c2 => ?_)
    · have H := H.1 c2
      refine ev_iconst (-1) dOffice_paper_28 (by decide) ?_
      exact ev_iret rfl dOffice_paper_29 H
    · have H := H.2 c2
      refine ev_iload_n dOffice_paper_14 rfl ?_
      refine ev_aload_n dOffice_paper_15 rfl ?_
      refine ev_getR hok fk_Office_58 (woOffice hw) (fun _ _ _ => rfl) (wrOffice_8 hw) dOffice_paper_16 ?_
      refine ev_getR hok fk_Office_155 (woRun (wsOffice_8 hw)) (fun _ _ _ => rfl) (wrRun_4 (wsOffice_8 hw)) dOffice_paper_19 ?_
      refine ev_getI hok fk_Office_159 (woPapers (wsRun_4 (wsOffice_8 hw))) (fun _ _ _ => rfl) dOffice_paper_22 ?_
      refine ev_icmp_lt 30 dOffice_paper_25 (by decide) (fun c3 => ?_) (fun c3 => ?_)
      · have H := H.1 c3
        refine ev_aload_n dOffice_paper_30 rfl ?_
        refine ev_getR hok fk_Office_58 (woOffice hw) (fun _ _ _ => rfl) (wrOffice_8 hw) dOffice_paper_31 ?_
        refine ev_getR hok fk_Office_155 (woRun (wsOffice_8 hw)) (fun _ _ _ => rfl) (wrRun_4 (wsOffice_8 hw)) dOffice_paper_34 ?_
        refine ev_iload_n dOffice_paper_37 rfl ?_
        refine ev_iload_n dOffice_paper_38 rfl ?_
        refine ev_callV [.int x1, .int x2] [] (B' := (0, 0)) (B'' := (0, 0)) hok mmPapers_detail mk_Office_187 (ci := 3) rfl rfl (woPapers (wsRun_4 (wsOffice_8 hw))) rfl (Nat.le_of_ble_eq_true rfl) rfl (Nat.le_of_ble_eq_true rfl) dOffice_paper_39 rfl (by decide) H (fun v τ p4 => ?_)
        obtain ⟨r5, I6, L7, rfl, rfl, H⟩ := p4
        exact ev_iret rfl dOffice_paper_42 H
      · have H := H.2 c3
        refine ev_iconst (-1) dOffice_paper_28 (by decide) ?_
        exact ev_iret rfl dOffice_paper_29 H
def fOffice_tellFact_0 (D : va_G) (cA : FieldType → ClassId) (b : Nat) (E : State → Prop) (o : Nat) (n : Nat) (sh : Nat → qC) (Rf : Nat → Nat → Option Nat) (I : Nat → Nat → Int32) (L : Nat → Nat → Int64) (post : Option Value → qS → Prop) (x1 : Int32) (x2 : Int32) (x3 : Int32) (x4 : Int32) : Prop :=
  ((x3 < 0 → post (some (.int ((-1)))) (n, sh, Rf, I, L)) ∧ (¬ x3 < 0 → ((x3 < 240 → Ev (qGG D cA b E) mFacts_add 0 (0, 0) 0 (lv_args 0 [.ref ((o + 48)), .int x1, .int x2, .int x3, .int x4, .int ((I o 7))]) [] (n, sh, Rf, I, L) (fun v τ => ∃ (r4 : Int32) (I5 : Nat → Nat → Int32) (L6 : Nat → Nat → Int64), v = some (.int r4) ∧ τ = (n, sh, Rf, I5, L6) ∧ post (some (.int r4)) (n, sh, Rf, I5, L6))) ∧ (¬ x3 < 240 → post (some (.int ((-1)))) (n, sh, Rf, I, L)))))
set_option maxHeartbeats 4000000 in
set_option maxRecDepth 20000 in
theorem sOffice_tellFact_0 {D : va_G} {cA : FieldType → ClassId} {b : Nat} {E : State → Prop} (o : Nat) (n : Nat) (sh : Nat → qC) (Rf : Nat → Nat → Option Nat) (I : Nat → Nat → Int32) (L : Nat → Nat → Int64) (post : Option Value → qS → Prop) (x1 : Int32) (x2 : Int32) (x3 : Int32) (x4 : Int32) (hok : q_ok (qGG D cA b E)) (hw : WfOffice (qGG D cA b E) n sh Rf o) (H : fOffice_tellFact_0 D cA b E o n sh Rf I L post x1 x2 x3 x4) : Ev (qGG D cA b E) mOffice_tellFact 1 (0, 0) 0 [(0, .ref o), (1, .int x1), (2, .int x2), (3, .int x3), (4, .int x4)] [] (n, sh, Rf, I, L) post := by
  unfold fOffice_tellFact_0 at H
  refine ev_iload_n dOffice_tellFact_0 rfl ?_
  refine ev_if_lt 11 dOffice_tellFact_1 (by decide) (fun c1 => ?_) (fun c1 => ?_)
  · have H := H.1 c1
    refine ev_iconst (-1) dOffice_tellFact_11 (by decide) ?_
    exact ev_iret rfl dOffice_tellFact_12 H
  · have H := H.2 c1
    refine ev_iload_n dOffice_tellFact_4 rfl ?_
    refine ev_sipush (240) dOffice_tellFact_5 (by decide) ?_
    refine ev_icmp_lt 13 dOffice_tellFact_8 (by decide) (fun c2 => ?_) (fun c2 => ?_)
    · have H := H.1 c2
      refine ev_aload_n dOffice_tellFact_13 rfl ?_
      refine ev_getR hok fk_Office_47 (woOffice hw) (fun _ _ _ => rfl) (wrOffice_6 hw) dOffice_tellFact_14 ?_
      refine ev_iload_n dOffice_tellFact_17 rfl ?_
      refine ev_iload_n dOffice_tellFact_18 rfl ?_
      refine ev_iload_n dOffice_tellFact_19 rfl ?_
      refine ev_iload dOffice_tellFact_20 rfl ?_
      refine ev_aload_n dOffice_tellFact_22 rfl ?_
      refine ev_getI hok fk_Office_51 (woOffice hw) (fun _ _ _ => rfl) dOffice_tellFact_23 ?_
      refine ev_callV [.int x1, .int x2, .int x3, .int x4, .int ((I o 7))] [] (B' := (0, 0)) (B'' := (0, 0)) hok mmFacts_add mk_Office_139 (ci := 0) rfl rfl (woFacts (wsOffice_6 hw)) rfl (Nat.le_of_ble_eq_true rfl) rfl (Nat.le_of_ble_eq_true rfl) dOffice_tellFact_26 rfl (by decide) H (fun v τ p3 => ?_)
      obtain ⟨r4, I5, L6, rfl, rfl, H⟩ := p3
      exact ev_iret rfl dOffice_tellFact_29 H
    · have H := H.2 c2
      refine ev_iconst (-1) dOffice_tellFact_11 (by decide) ?_
      exact ev_iret rfl dOffice_tellFact_12 H
def fOffice_town_0 (D : va_G) (cA : FieldType → ClassId) (b : Nat) (E : State → Prop) (o : Nat) (n : Nat) (sh : Nat → qC) (Rf : Nat → Nat → Option Nat) (I : Nat → Nat → Int32) (L : Nat → Nat → Int64) (post : Option Value → qS → Prop) (x1 : Int32) (x2 : Int32) (x3 : Int32) (uo_1 : Nat) : Prop :=
  Ev (qGG D cA b E) mOffice_ranMonth 0 (0, 0) 0 (lv_args 0 [.ref o, .int x2]) [] (n, sh, Rf, I, L) (fun v τ => ∃ (r2 : Int32) (I3 : Nat → Nat → Int32) (L4 : Nat → Nat → Int64), v = some (.int r2) ∧ τ = (n, sh, Rf, I3, L4) ∧ ((r2 = 0 → post (some (.int ((-1)))) (n, sh, Rf, I3, L4)) ∧ (¬ r2 = 0 → ((x1 < 0 → post (some (.int ((-1)))) (n, sh, Rf, I3, L4)) ∧ (¬ x1 < 0 → (((I3 uo_1 3) ≤ x1 → post (some (.int ((-1)))) (n, sh, Rf, I3, L4)) ∧ (¬ (I3 uo_1 3) ≤ x1 → Ev (qGG D cA b E) mOffice_within 0 (0, 0) 0 (lv_args 0 [.int x3, .int 0, .int 2]) [] (n, sh, Rf, I3, L4) (fun v τ => ∃ (r9 : Int32) (I10 : Nat → Nat → Int32) (L11 : Nat → Nat → Int64), v = some (.int r9) ∧ τ = (n, sh, Rf, I10, L11) ∧ ((¬ r9 = 0 → vp_in ((((x2 * 5) + x1) * 3) + x3) 3600 ∧ post (some (.int ((I10 (((o + 55) + 53) + 3) (((((x2 * 5) + x1) * 3) + x3) : Int32).toNatClampNeg)))) (n, sh, Rf, I10, L11)) ∧ (r9 = 0 → post (some (.int ((-1)))) (n, sh, Rf, I10, L11)))))))))))
set_option maxHeartbeats 4000000 in
set_option maxRecDepth 20000 in
theorem sOffice_town_0 {D : va_G} {cA : FieldType → ClassId} {b : Nat} {E : State → Prop} (o : Nat) (n : Nat) (sh : Nat → qC) (Rf : Nat → Nat → Option Nat) (I : Nat → Nat → Int32) (L : Nat → Nat → Int64) (post : Option Value → qS → Prop) (x1 : Int32) (x2 : Int32) (x3 : Int32) (uo_1 : Nat) (hok : q_ok (qGG D cA b E)) (hw : WfOffice (qGG D cA b E) n sh Rf o) (huo_1 : Rf o 1 = some uo_1) (hwuo_1 : WfLand (qGG D cA b E) n sh Rf uo_1) (H : fOffice_town_0 D cA b E o n sh Rf I L post x1 x2 x3 uo_1) : Ev (qGG D cA b E) mOffice_town 1 (0, 0) 0 [(0, .ref o), (1, .int x1), (2, .int x2), (3, .int x3)] [] (n, sh, Rf, I, L) post := by
  unfold fOffice_town_0 at H
  refine ev_aload_n dOffice_town_0 rfl ?_
  refine ev_iload_n dOffice_town_1 rfl ?_
  refine ev_callV [.int x2] [] (B' := (0, 0)) (B'' := (0, 0)) hok mmOffice_ranMonth mk_Office_168 (ci := 11) rfl rfl (woOffice hw) rfl (Nat.le_of_ble_eq_true rfl) rfl (Nat.le_of_ble_eq_true rfl) dOffice_town_2 rfl (by decide) H (fun v τ p1 => ?_)
  obtain ⟨r2, I3, L4, rfl, rfl, H⟩ := p1
  refine ev_if_eq 32 dOffice_town_5 (by decide) (fun c5 => ?_) (fun c5 => ?_)
  · have H := H.1 c5
    refine ev_iconst (-1) dOffice_town_32 (by decide) ?_
    exact ev_iret rfl dOffice_town_33 H
  · have H := H.2 c5
    refine ev_iload_n dOffice_town_8 rfl ?_
    refine ev_if_lt 32 dOffice_town_9 (by decide) (fun c6 => ?_) (fun c6 => ?_)
    · have H := H.1 c6
      refine ev_iconst (-1) dOffice_town_32 (by decide) ?_
      exact ev_iret rfl dOffice_town_33 H
    · have H := H.2 c6
      refine ev_iload_n dOffice_town_12 rfl ?_
      refine ev_aload_n dOffice_town_13 rfl ?_
      refine ev_getR hok fk_Office_19 (woOffice hw) (fun _ _ _ => rfl) huo_1 dOffice_town_14 ?_
      refine ev_getI hok fk_Office_92 (woLand hwuo_1) (fun _ _ _ => rfl) dOffice_town_17 ?_
      refine ev_icmp_ge 32 dOffice_town_20 (by decide) (fun c7 => ?_) (fun c7 => ?_)
      · have H := H.1 c7
        refine ev_iconst (-1) dOffice_town_32 (by decide) ?_
        exact ev_iret rfl dOffice_town_33 H
      · have H := H.2 c7
        refine ev_iload_n dOffice_town_23 rfl ?_
        refine ev_iconst (0) dOffice_town_24 (by decide) ?_
        refine ev_iconst (2) dOffice_town_25 (by decide) ?_
        refine ev_callS [.int x3, .int 0, .int 2] [] (B' := (0, 0)) (B'' := (0, 0)) hok mmOffice_within mk_Office_116 rfl (Nat.le_of_ble_eq_true rfl) rfl (Nat.le_of_ble_eq_true rfl) dOffice_town_26 rfl (by decide) H (fun v τ p8 => ?_)
        obtain ⟨r9, I10, L11, rfl, rfl, H⟩ := p8
        refine ev_if_ne 34 dOffice_town_29 (by decide) (fun c12 => ?_) (fun c12 => ?_)
        · have H := H.1 c12
          refine ev_aload_n dOffice_town_34 rfl ?_
          refine ev_getR hok fk_Office_58 (woOffice hw) (fun _ _ _ => rfl) (wrOffice_8 hw) dOffice_town_35 ?_
          refine ev_getR hok fk_Office_172 (woRun (wsOffice_8 hw)) (fun _ _ _ => rfl) (wrRun_6 (wsOffice_8 hw)) dOffice_town_38 ?_
          refine ev_getR hok fk_Office_182 (woRecords (wsRun_6 (wsOffice_8 hw))) (fun _ _ _ => rfl) (wrRecords_2 (wsRun_6 (wsOffice_8 hw))) dOffice_town_41 ?_
          refine ev_iload_n dOffice_town_44 rfl ?_
          refine ev_iconst (5) dOffice_town_45 (by decide) ?_
          refine ev_imul dOffice_town_46 ?_
          refine ev_iload_n dOffice_town_47 rfl ?_
          refine ev_iadd dOffice_town_48 ?_
          refine ev_iconst (3) dOffice_town_49 (by decide) ?_
          refine ev_imul dOffice_town_50 ?_
          refine ev_iload_n dOffice_town_51 rfl ?_
          refine ev_iadd dOffice_town_52 ?_
          obtain ⟨h13, H⟩ := H
          refine ev_iald hok (waRecords_2 (wsRun_6 (wsOffice_8 hw))) h13 dOffice_town_53 ?_
          exact ev_iret rfl dOffice_town_54 H
        · have H := H.2 c12
          refine ev_iconst (-1) dOffice_town_32 (by decide) ?_
          exact ev_iret rfl dOffice_town_33 H
def fPapers_closeQueue_40 (D : va_G) (cA : FieldType → ClassId) (b : Nat) (E : State → Prop) (o : Nat) (n : Nat) (sh : Nat → qC) (Rf : Nat → Nat → Option Nat) (I : Nat → Nat → Int32) (L : Nat → Nat → Int64) (post : Option Value → qS → Prop) (x1 : Int32) (x2 : Int32) : Prop :=
  Ev (qGG D cA b E) mPapers_closeQueue 1 (0, 0) 4 [(0, .ref o), (1, .int x1), (2, .int ((x2 + Int32.ofInt 1)))] [] (n, sh, Rf, I, L) post
set_option maxHeartbeats 4000000 in
set_option maxRecDepth 20000 in
theorem sPapers_closeQueue_40 {D : va_G} {cA : FieldType → ClassId} {b : Nat} {E : State → Prop} (o : Nat) (n : Nat) (sh : Nat → qC) (Rf : Nat → Nat → Option Nat) (I : Nat → Nat → Int32) (L : Nat → Nat → Int64) (post : Option Value → qS → Prop) (x1 : Int32) (x2 : Int32) (hok : q_ok (qGG D cA b E)) (hw : WfPapers (qGG D cA b E) n sh Rf o) (H : fPapers_closeQueue_40 D cA b E o n sh Rf I L post x1 x2) : Ev (qGG D cA b E) mPapers_closeQueue 1 (0, 0) 40 [(0, .ref o), (1, .int x1), (2, .int x2)] [] (n, sh, Rf, I, L) post := by
  unfold fPapers_closeQueue_40 at H
  refine ev_iinc dPapers_closeQueue_40 rfl (by decide) ?_
  refine ev_goto 4 dPapers_closeQueue_43 (by decide) ?_
  exact ev_sub [(0, .ref o), (1, .int x1), (2, .int ((x2 + Int32.ofInt 1)))] rfl H
def fPapers_closeQueue_4 (D : va_G) (cA : FieldType → ClassId) (b : Nat) (E : State → Prop) (o : Nat) (n : Nat) (sh : Nat → qC) (Rf : Nat → Nat → Option Nat) (I : Nat → Nat → Int32) (L : Nat → Nat → Int64) (post : Option Value → qS → Prop) (x1 : Int32) (x2 : Int32) : Prop :=
  (((I o 13) ≤ x2 → ∀ I2 : Nat → Nat → Int32, q_u I o 13 x1 = I2 → post none (n, sh, Rf, I2, L)) ∧ (¬ (I o 13) ≤ x2 → vp_in x2 1440 ∧ Ev (qGG D cA b E) mPapers_isWaiting 0 (0, 0) 0 (lv_args 0 [.ref o, .int ((I (o + 11) (x2 : Int32).toNatClampNeg))]) [] (n, sh, Rf, I, L) (fun v τ => ∃ (r5 : Int32) (I6 : Nat → Nat → Int32) (L7 : Nat → Nat → Int64), v = some (.int r5) ∧ τ = (n, sh, Rf, I6, L7) ∧ ((r5 = 0 → fPapers_closeQueue_40 D cA b E o n sh Rf I6 L7 post x1 x2) ∧ (¬ r5 = 0 → vp_in x2 1440 ∧ vp_in x1 1440 ∧ ∀ I10 : Nat → Nat → Int32, q_u I6 (o + 11) (x1 : Int32).toNatClampNeg (I6 (o + 11) (x2 : Int32).toNatClampNeg) = I10 → fPapers_closeQueue_40 D cA b E o n sh Rf I10 L7 post (x1 + Int32.ofInt 1) x2)))))
set_option maxHeartbeats 4000000 in
set_option maxRecDepth 20000 in
theorem sPapers_closeQueue_4 {D : va_G} {cA : FieldType → ClassId} {b : Nat} {E : State → Prop} (o : Nat) (n : Nat) (sh : Nat → qC) (Rf : Nat → Nat → Option Nat) (I : Nat → Nat → Int32) (L : Nat → Nat → Int64) (post : Option Value → qS → Prop) (x1 : Int32) (x2 : Int32) (hok : q_ok (qGG D cA b E)) (hw : WfPapers (qGG D cA b E) n sh Rf o) (H : fPapers_closeQueue_4 D cA b E o n sh Rf I L post x1 x2) : Ev (qGG D cA b E) mPapers_closeQueue 1 (0, 0) 4 [(0, .ref o), (1, .int x1), (2, .int x2)] [] (n, sh, Rf, I, L) post := by
  unfold fPapers_closeQueue_4 at H
  refine ev_iload_n dPapers_closeQueue_4 rfl ?_
  refine ev_aload_n dPapers_closeQueue_5 rfl ?_
  refine ev_getI hok fk_Papers_52 (woPapers hw) (fun _ _ _ => rfl) dPapers_closeQueue_6 ?_
  refine ev_icmp_ge 46 dPapers_closeQueue_9 (by decide) (fun c1 => ?_) (fun c1 => ?_)
  · have H := H.1 c1
    refine ev_aload_n dPapers_closeQueue_46 rfl ?_
    refine ev_iload_n dPapers_closeQueue_47 rfl ?_
    refine ev_putI hok fk_Papers_52 (woPapers hw) (fun _ _ _ => rfl) rfl rfl dPapers_closeQueue_48 ?_
    generalize eI2 : q_u I o 13 x1 = I2
    have H := H I2 eI2
    exact ev_vret rfl dPapers_closeQueue_51 H
  · have H := H.2 c1
    refine ev_aload_n dPapers_closeQueue_12 rfl ?_
    refine ev_aload_n dPapers_closeQueue_13 rfl ?_
    refine ev_getR hok fk_Papers_42 (woPapers hw) (fun _ _ _ => rfl) (wrPapers_10 hw) dPapers_closeQueue_14 ?_
    refine ev_iload_n dPapers_closeQueue_17 rfl ?_
    obtain ⟨h3, H⟩ := H
    refine ev_iald hok (waPapers_10 hw) h3 dPapers_closeQueue_18 ?_
    refine ev_callV [.int ((I (o + 11) (x2 : Int32).toNatClampNeg))] [] (B' := (0, 0)) (B'' := (0, 0)) hok mmPapers_isWaiting mk_Papers_84 (ci := 3) rfl rfl (woPapers hw) rfl (Nat.le_of_ble_eq_true rfl) rfl (Nat.le_of_ble_eq_true rfl) dPapers_closeQueue_19 rfl (by decide) H (fun v τ p4 => ?_)
    obtain ⟨r5, I6, L7, rfl, rfl, H⟩ := p4
    refine ev_if_eq 40 dPapers_closeQueue_22 (by decide) (fun c8 => ?_) (fun c8 => ?_)
    · have H := H.1 c8
      exact ev_sub [(0, .ref o), (1, .int x1), (2, .int x2)] rfl (sPapers_closeQueue_40 o n sh Rf I6 L7 post x1 x2 hok hw H)
    · have H := H.2 c8
      refine ev_aload_n dPapers_closeQueue_25 rfl ?_
      refine ev_getR hok fk_Papers_42 (woPapers hw) (fun _ _ _ => rfl) (wrPapers_10 hw) dPapers_closeQueue_26 ?_
      refine ev_iload_n dPapers_closeQueue_29 rfl ?_
      refine ev_aload_n dPapers_closeQueue_30 rfl ?_
      refine ev_getR hok fk_Papers_42 (woPapers hw) (fun _ _ _ => rfl) (wrPapers_10 hw) dPapers_closeQueue_31 ?_
      refine ev_iload_n dPapers_closeQueue_34 rfl ?_
      obtain ⟨h9, H⟩ := H
      refine ev_iald hok (waPapers_10 hw) h9 dPapers_closeQueue_35 ?_
      obtain ⟨h11, H⟩ := H
      refine ev_iast hok (waPapers_10 hw) h11 dPapers_closeQueue_36 ?_
      generalize eI10 : q_u I6 (o + 11) (x1 : Int32).toNatClampNeg (I6 (o + 11) (x2 : Int32).toNatClampNeg) = I10
      have H := H I10 eI10
      refine ev_iinc dPapers_closeQueue_37 rfl (by decide) ?_
      exact ev_sub [(0, .ref o), (1, .int ((x1 + Int32.ofInt 1))), (2, .int x2)] rfl (sPapers_closeQueue_40 o n sh Rf I10 L7 post (x1 + Int32.ofInt 1) x2 hok hw H)
def fPapers_closeQueue_0 (D : va_G) (cA : FieldType → ClassId) (b : Nat) (E : State → Prop) (o : Nat) (n : Nat) (sh : Nat → qC) (Rf : Nat → Nat → Option Nat) (I : Nat → Nat → Int32) (L : Nat → Nat → Int64) (post : Option Value → qS → Prop)  : Prop :=
  Ev (qGG D cA b E) mPapers_closeQueue 1 (0, 0) 4 [(0, .ref o), (1, .int 0), (2, .int 0)] [] (n, sh, Rf, I, L) post
set_option maxHeartbeats 4000000 in
set_option maxRecDepth 20000 in
theorem sPapers_closeQueue_0 {D : va_G} {cA : FieldType → ClassId} {b : Nat} {E : State → Prop} (o : Nat) (n : Nat) (sh : Nat → qC) (Rf : Nat → Nat → Option Nat) (I : Nat → Nat → Int32) (L : Nat → Nat → Int64) (post : Option Value → qS → Prop)  (hok : q_ok (qGG D cA b E)) (hw : WfPapers (qGG D cA b E) n sh Rf o) (H : fPapers_closeQueue_0 D cA b E o n sh Rf I L post ) : Ev (qGG D cA b E) mPapers_closeQueue 1 (0, 0) 0 [(0, .ref o)] [] (n, sh, Rf, I, L) post := by
  unfold fPapers_closeQueue_0 at H
  refine ev_iconst (0) dPapers_closeQueue_0 (by decide) ?_
  refine ev_istore_n dPapers_closeQueue_1 (by decide) ?_
  refine ev_iconst (0) dPapers_closeQueue_2 (by decide) ?_
  refine ev_istore_n dPapers_closeQueue_3 (by decide) ?_
  exact ev_sub [(0, .ref o), (1, .int 0), (2, .int 0)] rfl H
def fPapers_draw_0 (D : va_G) (cA : FieldType → ClassId) (b : Nat) (E : State → Prop) (o : Nat) (n : Nat) (sh : Nat → qC) (Rf : Nat → Nat → Option Nat) (I : Nat → Nat → Int32) (L : Nat → Nat → Int64) (post : Option Value → qS → Prop) (x1 : Int32) (x2 : Int32) : Prop :=
  Ev (qGG D cA b E) mPapers_stopWaiting 0 (0, 0) 0 (lv_args 0 [.ref o, .int x1]) [] (n, sh, Rf, I, L) (fun v τ => ∃ (I3 : Nat → Nat → Int32) (L4 : Nat → Nat → Int64), v = none ∧ τ = (n, sh, Rf, I3, L4) ∧ vp_in x1 1440 ∧ ∀ I5 : Nat → Nat → Int32, q_u I3 (o + 7) (x1 : Int32).toNatClampNeg x2 = I5 → post none (n, sh, Rf, I5, L4))
set_option maxHeartbeats 4000000 in
set_option maxRecDepth 20000 in
theorem sPapers_draw_0 {D : va_G} {cA : FieldType → ClassId} {b : Nat} {E : State → Prop} (o : Nat) (n : Nat) (sh : Nat → qC) (Rf : Nat → Nat → Option Nat) (I : Nat → Nat → Int32) (L : Nat → Nat → Int64) (post : Option Value → qS → Prop) (x1 : Int32) (x2 : Int32) (hok : q_ok (qGG D cA b E)) (hw : WfPapers (qGG D cA b E) n sh Rf o) (H : fPapers_draw_0 D cA b E o n sh Rf I L post x1 x2) : Ev (qGG D cA b E) mPapers_draw 1 (0, 0) 0 [(0, .ref o), (1, .int x1), (2, .int x2)] [] (n, sh, Rf, I, L) post := by
  unfold fPapers_draw_0 at H
  refine ev_aload_n dPapers_draw_0 rfl ?_
  refine ev_iload_n dPapers_draw_1 rfl ?_
  refine ev_callV [.int x1] [] (B' := (0, 0)) (B'' := (0, 0)) hok mmPapers_stopWaiting mk_Papers_88 (ci := 3) rfl rfl (woPapers hw) rfl (Nat.le_of_ble_eq_true rfl) rfl (Nat.le_of_ble_eq_true rfl) dPapers_draw_2 rfl (by decide) H (fun v τ p1 => ?_)
  obtain ⟨I3, L4, rfl, rfl, H⟩ := p1
  refine ev_aload_n dPapers_draw_5 rfl ?_
  refine ev_getR hok fk_Papers_30 (woPapers hw) (fun _ _ _ => rfl) (wrPapers_6 hw) dPapers_draw_6 ?_
  refine ev_iload_n dPapers_draw_9 rfl ?_
  refine ev_iload_n dPapers_draw_10 rfl ?_
  obtain ⟨h6, H⟩ := H
  refine ev_iast hok (waPapers_6 hw) h6 dPapers_draw_11 ?_
  generalize eI5 : q_u I3 (o + 7) (x1 : Int32).toNatClampNeg x2 = I5
  have H := H I5 eI5
  exact ev_vret rfl dPapers_draw_12 H
def fPapers_lose_0 (D : va_G) (cA : FieldType → ClassId) (b : Nat) (E : State → Prop) (o : Nat) (n : Nat) (sh : Nat → qC) (Rf : Nat → Nat → Option Nat) (I : Nat → Nat → Int32) (L : Nat → Nat → Int64) (post : Option Value → qS → Prop) (x1 : Int32) : Prop :=
  Ev (qGG D cA b E) mPapers_isWaiting 0 (0, 0) 0 (lv_args 0 [.ref o, .int x1]) [] (n, sh, Rf, I, L) (fun v τ => ∃ (r2 : Int32) (I3 : Nat → Nat → Int32) (L4 : Nat → Nat → Int64), v = some (.int r2) ∧ τ = (n, sh, Rf, I3, L4) ∧ ((r2 = 0 → post none (n, sh, Rf, I3, L4)) ∧ (¬ r2 = 0 → Ev (qGG D cA b E) mPapers_stopWaiting 0 (0, 0) 0 (lv_args 0 [.ref o, .int x1]) [] (n, sh, Rf, I3, L4) (fun v τ => ∃ (I8 : Nat → Nat → Int32) (L9 : Nat → Nat → Int64), v = none ∧ τ = (n, sh, Rf, I8, L9) ∧ vp_in x1 1440 ∧ ∀ I10 : Nat → Nat → Int32, q_u I8 (o + 8) (x1 : Int32).toNatClampNeg 1 = I10 → post none (n, sh, Rf, I10, L9)))))
set_option maxHeartbeats 4000000 in
set_option maxRecDepth 20000 in
theorem sPapers_lose_0 {D : va_G} {cA : FieldType → ClassId} {b : Nat} {E : State → Prop} (o : Nat) (n : Nat) (sh : Nat → qC) (Rf : Nat → Nat → Option Nat) (I : Nat → Nat → Int32) (L : Nat → Nat → Int64) (post : Option Value → qS → Prop) (x1 : Int32) (hok : q_ok (qGG D cA b E)) (hw : WfPapers (qGG D cA b E) n sh Rf o) (H : fPapers_lose_0 D cA b E o n sh Rf I L post x1) : Ev (qGG D cA b E) mPapers_lose 1 (0, 0) 0 [(0, .ref o), (1, .int x1)] [] (n, sh, Rf, I, L) post := by
  unfold fPapers_lose_0 at H
  refine ev_aload_n dPapers_lose_0 rfl ?_
  refine ev_iload_n dPapers_lose_1 rfl ?_
  refine ev_callV [.int x1] [] (B' := (0, 0)) (B'' := (0, 0)) hok mmPapers_isWaiting mk_Papers_84 (ci := 3) rfl rfl (woPapers hw) rfl (Nat.le_of_ble_eq_true rfl) rfl (Nat.le_of_ble_eq_true rfl) dPapers_lose_2 rfl (by decide) H (fun v τ p1 => ?_)
  obtain ⟨r2, I3, L4, rfl, rfl, H⟩ := p1
  refine ev_if_eq 20 dPapers_lose_5 (by decide) (fun c5 => ?_) (fun c5 => ?_)
  · have H := H.1 c5
    exact ev_vret rfl dPapers_lose_20 H
  · have H := H.2 c5
    refine ev_aload_n dPapers_lose_8 rfl ?_
    refine ev_iload_n dPapers_lose_9 rfl ?_
    refine ev_callV [.int x1] [] (B' := (0, 0)) (B'' := (0, 0)) hok mmPapers_stopWaiting mk_Papers_88 (ci := 3) rfl rfl (woPapers hw) rfl (Nat.le_of_ble_eq_true rfl) rfl (Nat.le_of_ble_eq_true rfl) dPapers_lose_10 rfl (by decide) H (fun v τ p6 => ?_)
    obtain ⟨I8, L9, rfl, rfl, H⟩ := p6
    refine ev_aload_n dPapers_lose_13 rfl ?_
    refine ev_getR hok fk_Papers_33 (woPapers hw) (fun _ _ _ => rfl) (wrPapers_7 hw) dPapers_lose_14 ?_
    refine ev_iload_n dPapers_lose_17 rfl ?_
    refine ev_iconst (1) dPapers_lose_18 (by decide) ?_
    obtain ⟨h11, H⟩ := H
    refine ev_iast hok (waPapers_7 hw) h11 dPapers_lose_19 ?_
    generalize eI10 : q_u I8 (o + 8) (x1 : Int32).toNatClampNeg 1 = I10
    have H := H I10 eI10
    exact ev_vret rfl dPapers_lose_20 H
def fPapers_start_96 (D : va_G) (cA : FieldType → ClassId) (b : Nat) (E : State → Prop) (o : Nat) (n : Nat) (sh : Nat → qC) (Rf : Nat → Nat → Option Nat) (I : Nat → Nat → Int32) (L : Nat → Nat → Int64) (post : Option Value → qS → Prop) (x1 : Nat) (x2 : Int32) (x3 : Int32) (x4 : Int32) : Prop :=
  Ev (qGG D cA b E) mPapers_start 1 (0, 0) 34 [(0, .ref o), (1, .ref x1), (2, .int x2), (3, .int ((x3 + Int32.ofInt 1)))] [] (n, sh, Rf, I, L) post
set_option maxHeartbeats 4000000 in
set_option maxRecDepth 20000 in
theorem sPapers_start_96 {D : va_G} {cA : FieldType → ClassId} {b : Nat} {E : State → Prop} (o : Nat) (n : Nat) (sh : Nat → qC) (Rf : Nat → Nat → Option Nat) (I : Nat → Nat → Int32) (L : Nat → Nat → Int64) (post : Option Value → qS → Prop) (x1 : Nat) (x2 : Int32) (x3 : Int32) (x4 : Int32) (hok : q_ok (qGG D cA b E)) (hw : WfPapers (qGG D cA b E) n sh Rf o) (hw1 : WfFacts (qGG D cA b E) n sh Rf x1) (H : fPapers_start_96 D cA b E o n sh Rf I L post x1 x2 x3 x4) : Ev (qGG D cA b E) mPapers_start 1 (0, 0) 96 [(0, .ref o), (1, .ref x1), (2, .int x2), (3, .int x3), (4, .int x4)] [] (n, sh, Rf, I, L) post := by
  unfold fPapers_start_96 at H
  refine ev_iinc dPapers_start_96 rfl (by decide) ?_
  refine ev_goto 34 dPapers_start_99 (by decide) ?_
  exact ev_sub [(0, .ref o), (1, .ref x1), (2, .int x2), (3, .int ((x3 + Int32.ofInt 1)))] rfl H
def fPapers_start_34 (D : va_G) (cA : FieldType → ClassId) (b : Nat) (E : State → Prop) (o : Nat) (n : Nat) (sh : Nat → qC) (Rf : Nat → Nat → Option Nat) (I : Nat → Nat → Int32) (L : Nat → Nat → Int64) (post : Option Value → qS → Prop) (x1 : Nat) (x2 : Int32) (x3 : Int32) : Prop :=
  (((I x1 6) ≤ x3 → post none (n, sh, Rf, I, L)) ∧ (¬ (I x1 6) ≤ x3 → vp_in x3 40 ∧ Ev (qGG D cA b E) mFacts_isKnown 0 (0, 0) 0 (lv_args 0 [.ref x1, .int x3, .int 1, .int x2]) [] (n, sh, Rf, I, L) (fun v τ => ∃ (r4 : Int32) (I5 : Nat → Nat → Int32) (L6 : Nat → Nat → Int64), v = some (.int r4) ∧ τ = (n, sh, Rf, I5, L6) ∧ ((r4 = 0 → fPapers_start_96 D cA b E o n sh Rf I5 L6 post x1 x2 x3 (I (x1 + 2) (x3 : Int32).toNatClampNeg)) ∧ (¬ r4 = 0 → (((I (x1 + 2) (x3 : Int32).toNatClampNeg) < 0 → fPapers_start_96 D cA b E o n sh Rf I5 L6 post x1 x2 x3 (I (x1 + 2) (x3 : Int32).toNatClampNeg)) ∧ (¬ (I (x1 + 2) (x3 : Int32).toNatClampNeg) < 0 → ((1440 ≤ (I (x1 + 2) (x3 : Int32).toNatClampNeg) → fPapers_start_96 D cA b E o n sh Rf I5 L6 post x1 x2 x3 (I (x1 + 2) (x3 : Int32).toNatClampNeg)) ∧ (¬ 1440 ≤ (I (x1 + 2) (x3 : Int32).toNatClampNeg) → vp_in (I (x1 + 2) (x3 : Int32).toNatClampNeg) 1440 ∧ vp_in x3 40 ∧ ∀ y12 : Int32, ((if (I5 (x1 + 3) (x3 : Int32).toNatClampNeg) < (I5 (o + 10) ((I (x1 + 2) (x3 : Int32).toNatClampNeg) : Int32).toNatClampNeg) then (I5 (x1 + 3) (x3 : Int32).toNatClampNeg) else (I5 (o + 10) ((I (x1 + 2) (x3 : Int32).toNatClampNeg) : Int32).toNatClampNeg)) : Int32) = y12 → vp_in (I (x1 + 2) (x3 : Int32).toNatClampNeg) 1440 ∧ ∀ I13 : Nat → Nat → Int32, q_u I5 (o + 10) ((I (x1 + 2) (x3 : Int32).toNatClampNeg) : Int32).toNatClampNeg y12 = I13 → fPapers_start_96 D cA b E o n sh Rf I13 L6 post x1 x2 x3 (I (x1 + 2) (x3 : Int32).toNatClampNeg))))))))))
set_option maxHeartbeats 4000000 in
set_option maxRecDepth 20000 in
theorem sPapers_start_34 {D : va_G} {cA : FieldType → ClassId} {b : Nat} {E : State → Prop} (o : Nat) (n : Nat) (sh : Nat → qC) (Rf : Nat → Nat → Option Nat) (I : Nat → Nat → Int32) (L : Nat → Nat → Int64) (post : Option Value → qS → Prop) (x1 : Nat) (x2 : Int32) (x3 : Int32) (hok : q_ok (qGG D cA b E)) (hw : WfPapers (qGG D cA b E) n sh Rf o) (hw1 : WfFacts (qGG D cA b E) n sh Rf x1) (H : fPapers_start_34 D cA b E o n sh Rf I L post x1 x2 x3) : Ev (qGG D cA b E) mPapers_start 1 (0, 0) 34 [(0, .ref o), (1, .ref x1), (2, .int x2), (3, .int x3)] [] (n, sh, Rf, I, L) post := by
  unfold fPapers_start_34 at H
  refine ev_iload_n dPapers_start_34 rfl ?_
  refine ev_aload_n dPapers_start_35 rfl ?_
  refine ev_getI hok fk_Papers_65 (woFacts hw1) (fun _ _ _ => rfl) dPapers_start_36 ?_
  refine ev_icmp_ge 102 dPapers_start_39 (by decide) (fun c1 => ?_) (fun c1 => ?_)
  · have H := H.1 c1
    exact ev_vret rfl dPapers_start_102 H
  · have H := H.2 c1
    refine ev_aload_n dPapers_start_42 rfl ?_
    refine ev_getR hok fk_Papers_68 (woFacts hw1) (fun _ _ _ => rfl) (wrFacts_1 hw1) dPapers_start_43 ?_
    refine ev_iload_n dPapers_start_46 rfl ?_
    obtain ⟨h2, H⟩ := H
    refine ev_iald hok (waFacts_1 hw1) h2 dPapers_start_47 ?_
    refine ev_istore dPapers_start_48 (by decide) ?_
    refine ev_aload_n dPapers_start_50 rfl ?_
    refine ev_iload_n dPapers_start_51 rfl ?_
    refine ev_iconst (1) dPapers_start_52 (by decide) ?_
    refine ev_iload_n dPapers_start_53 rfl ?_
    refine ev_callV [.int x3, .int 1, .int x2] [] (B' := (0, 0)) (B'' := (0, 0)) hok mmFacts_isKnown mk_Papers_71 (ci := 0) rfl rfl (woFacts hw1) rfl (Nat.le_of_ble_eq_true rfl) rfl (Nat.le_of_ble_eq_true rfl) dPapers_start_54 rfl (by decide) H (fun v τ p3 => ?_)
    obtain ⟨r4, I5, L6, rfl, rfl, H⟩ := p3
    refine ev_if_eq 96 dPapers_start_57 (by decide) (fun c7 => ?_) (fun c7 => ?_)
    · have H := H.1 c7
      exact ev_sub [(0, .ref o), (1, .ref x1), (2, .int x2), (3, .int x3), (4, .int ((I (x1 + 2) (x3 : Int32).toNatClampNeg)))] rfl (sPapers_start_96 o n sh Rf I5 L6 post x1 x2 x3 (I (x1 + 2) (x3 : Int32).toNatClampNeg) hok hw hw1 H)
    · have H := H.2 c7
      refine ev_iload dPapers_start_60 rfl ?_
      refine ev_if_lt 96 dPapers_start_62 (by decide) (fun c8 => ?_) (fun c8 => ?_)
      · have H := H.1 c8
        exact ev_sub [(0, .ref o), (1, .ref x1), (2, .int x2), (3, .int x3), (4, .int ((I (x1 + 2) (x3 : Int32).toNatClampNeg)))] rfl (sPapers_start_96 o n sh Rf I5 L6 post x1 x2 x3 (I (x1 + 2) (x3 : Int32).toNatClampNeg) hok hw hw1 H)
      · have H := H.2 c8
        refine ev_iload dPapers_start_65 rfl ?_
        refine ev_sipush (1440) dPapers_start_67 (by decide) ?_
        refine ev_icmp_ge 96 dPapers_start_70 (by decide) (fun c9 => ?_) (fun c9 => ?_)
        · have H := H.1 c9
          exact ev_sub [(0, .ref o), (1, .ref x1), (2, .int x2), (3, .int x3), (4, .int ((I (x1 + 2) (x3 : Int32).toNatClampNeg)))] rfl (sPapers_start_96 o n sh Rf I5 L6 post x1 x2 x3 (I (x1 + 2) (x3 : Int32).toNatClampNeg) hok hw hw1 H)
        · have H := H.2 c9
          refine ev_aload_n dPapers_start_73 rfl ?_
          refine ev_getR hok fk_Papers_39 (woPapers hw) (fun _ _ _ => rfl) (wrPapers_9 hw) dPapers_start_74 ?_
          refine ev_iload dPapers_start_77 rfl ?_
          refine ev_aload_n dPapers_start_79 rfl ?_
          refine ev_getR hok fk_Papers_39 (woPapers hw) (fun _ _ _ => rfl) (wrPapers_9 hw) dPapers_start_80 ?_
          refine ev_iload dPapers_start_83 rfl ?_
          obtain ⟨h10, H⟩ := H
          refine ev_iald hok (waPapers_9 hw) h10 dPapers_start_85 ?_
          refine ev_aload_n dPapers_start_86 rfl ?_
          refine ev_getR hok fk_Papers_75 (woFacts hw1) (fun _ _ _ => rfl) (wrFacts_2 hw1) dPapers_start_87 ?_
          refine ev_iload_n dPapers_start_90 rfl ?_
          obtain ⟨h11, H⟩ := H
          refine ev_iald hok (waFacts_2 hw1) h11 dPapers_start_91 ?_
          refine ev_mmin (by decide) (q_t5 110 (by decide +kernel) rfl) (q_t4 44 (by decide +kernel) rfl) (q_t1 19 (by decide +kernel) rfl) (q_t4 45 rfl rfl) (Nat.le_of_ble_eq_true rfl) dPapers_start_92 ?_
          generalize ey12 : ((if (I5 (x1 + 3) (x3 : Int32).toNatClampNeg) < (I5 (o + 10) ((I (x1 + 2) (x3 : Int32).toNatClampNeg) : Int32).toNatClampNeg) then (I5 (x1 + 3) (x3 : Int32).toNatClampNeg) else (I5 (o + 10) ((I (x1 + 2) (x3 : Int32).toNatClampNeg) : Int32).toNatClampNeg)) : Int32) = y12
          have H := H y12 ey12
          obtain ⟨h14, H⟩ := H
          refine ev_iast hok (waPapers_9 hw) h14 dPapers_start_95 ?_
          generalize eI13 : q_u I5 (o + 10) ((I (x1 + 2) (x3 : Int32).toNatClampNeg) : Int32).toNatClampNeg y12 = I13
          have H := H I13 eI13
          exact ev_sub [(0, .ref o), (1, .ref x1), (2, .int x2), (3, .int x3), (4, .int ((I (x1 + 2) (x3 : Int32).toNatClampNeg)))] rfl (sPapers_start_96 o n sh Rf I13 L6 post x1 x2 x3 (I (x1 + 2) (x3 : Int32).toNatClampNeg) hok hw hw1 H)
def fPapers_start_0 (D : va_G) (cA : FieldType → ClassId) (b : Nat) (E : State → Prop) (o : Nat) (n : Nat) (sh : Nat → qC) (Rf : Nat → Nat → Option Nat) (I : Nat → Nat → Int32) (L : Nat → Nat → Int64) (post : Option Value → qS → Prop) (x1 : Nat) (x2 : Int32) : Prop :=
  ∀ I1 : Nat → Nat → Int32, q_u I o 12 0 = I1 → ∀ I2 : Nat → Nat → Int32, q_u I1 o 13 0 = I2 → ∀ I3 : Nat → Nat → Int32, q_u I2 o 14 0 = I3 → Ev (qGG D cA b E) mArrays_fill_53178 0 (0, 0) 0 (lv_args 0 [.ref ((o + 12)), .int 0]) [] (n, sh, Rf, I3, L) (fun v τ => ∃ (I6 : Nat → Nat → Int32) (L7 : Nat → Nat → Int64), v = none ∧ τ = (n, sh, Rf, I6, L7) ∧ Ev (qGG D cA b E) mArrays_fill_53178 0 (0, 0) 0 (lv_args 0 [.ref ((o + 10)), .int 1000000]) [] (n, sh, Rf, I6, L7) (fun v τ => ∃ (I10 : Nat → Nat → Int32) (L11 : Nat → Nat → Int64), v = none ∧ τ = (n, sh, Rf, I10, L11) ∧ Ev (qGG D cA b E) mPapers_start 1 (0, 0) 34 [(0, .ref o), (1, .ref x1), (2, .int x2), (3, .int 0)] [] (n, sh, Rf, I10, L11) post))
set_option maxHeartbeats 4000000 in
set_option maxRecDepth 20000 in
theorem sPapers_start_0 {D : va_G} {cA : FieldType → ClassId} {b : Nat} {E : State → Prop} (o : Nat) (n : Nat) (sh : Nat → qC) (Rf : Nat → Nat → Option Nat) (I : Nat → Nat → Int32) (L : Nat → Nat → Int64) (post : Option Value → qS → Prop) (x1 : Nat) (x2 : Int32) (hok : q_ok (qGG D cA b E)) (hw : WfPapers (qGG D cA b E) n sh Rf o) (hw1 : WfFacts (qGG D cA b E) n sh Rf x1) (H : fPapers_start_0 D cA b E o n sh Rf I L post x1 x2) : Ev (qGG D cA b E) mPapers_start 1 (0, 0) 0 [(0, .ref o), (1, .ref x1), (2, .int x2)] [] (n, sh, Rf, I, L) post := by
  unfold fPapers_start_0 at H
  refine ev_aload_n dPapers_start_0 rfl ?_
  refine ev_iconst (0) dPapers_start_1 (by decide) ?_
  refine ev_putI hok fk_Papers_48 (woPapers hw) (fun _ _ _ => rfl) rfl rfl dPapers_start_2 ?_
  generalize eI1 : q_u I o 12 0 = I1
  have H := H I1 eI1
  refine ev_aload_n dPapers_start_5 rfl ?_
  refine ev_iconst (0) dPapers_start_6 (by decide) ?_
  refine ev_putI hok fk_Papers_52 (woPapers hw) (fun _ _ _ => rfl) rfl rfl dPapers_start_7 ?_
  generalize eI2 : q_u I1 o 13 0 = I2
  have H := H I2 eI2
  refine ev_aload_n dPapers_start_10 rfl ?_
  refine ev_iconst (0) dPapers_start_11 (by decide) ?_
  refine ev_putI hok fk_Papers_55 (woPapers hw) (fun _ _ _ => rfl) rfl rfl dPapers_start_12 ?_
  generalize eI3 : q_u I2 o 14 0 = I3
  have H := H I3 eI3
  refine ev_aload_n dPapers_start_15 rfl ?_
  refine ev_getR hok fk_Papers_45 (woPapers hw) (fun _ _ _ => rfl) (wrPapers_11 hw) dPapers_start_16 ?_
  refine ev_iconst (0) dPapers_start_19 (by decide) ?_
  refine ev_callS [.ref ((o + 12)), .int 0] [] (B' := (0, 0)) (B'' := (0, 0)) hok mmArrays_fill_53178 mk_Papers_58 rfl (Nat.le_of_ble_eq_true rfl) rfl (Nat.le_of_ble_eq_true rfl) dPapers_start_20 rfl (by decide) H (fun v τ p4 => ?_)
  obtain ⟨I6, L7, rfl, rfl, H⟩ := p4
  refine ev_aload_n dPapers_start_23 rfl ?_
  refine ev_getR hok fk_Papers_39 (woPapers hw) (fun _ _ _ => rfl) (wrPapers_9 hw) dPapers_start_24 ?_
  refine ev_ldc (1000000) dPapers_start_27 (q_t5 105 (by decide +kernel) rfl) ?_
  refine ev_callS [.ref ((o + 10)), .int 1000000] [] (B' := (0, 0)) (B'' := (0, 0)) hok mmArrays_fill_53178 mk_Papers_58 rfl (Nat.le_of_ble_eq_true rfl) rfl (Nat.le_of_ble_eq_true rfl) dPapers_start_29 rfl (by decide) H (fun v τ p8 => ?_)
  obtain ⟨I10, L11, rfl, rfl, H⟩ := p8
  refine ev_iconst (0) dPapers_start_32 (by decide) ?_
  refine ev_istore_n dPapers_start_33 (by decide) ?_
  exact ev_sub [(0, .ref o), (1, .ref x1), (2, .int x2), (3, .int 0)] rfl H
def fRealm_eat_4 (D : va_G) (cA : FieldType → ClassId) (b : Nat) (E : State → Prop) (o : Nat) (n : Nat) (sh : Nat → qC) (Rf : Nat → Nat → Option Nat) (I : Nat → Nat → Int32) (L : Nat → Nat → Int64) (post : Option Value → qS → Prop) (x1 : Nat) (x2 : Int32) (x3 : Int32) : Prop :=
  (((I x1 1) ≤ x3 → post (some (.int x2)) (n, sh, Rf, I, L)) ∧ (¬ (I x1 1) ≤ x3 → vp_in x3 3 ∧ vp_in x3 3 ∧ ∀ y4 : Int32, ((if (I (x1 + 4) (x3 : Int32).toNatClampNeg) < (I (o + 1) (x3 : Int32).toNatClampNeg) then (I (x1 + 4) (x3 : Int32).toNatClampNeg) else (I (o + 1) (x3 : Int32).toNatClampNeg)) : Int32) = y4 → vp_in x3 3 ∧ vp_in x3 3 ∧ ∀ I6 : Nat → Nat → Int32, q_u I (o + 1) (x3 : Int32).toNatClampNeg ((I (o + 1) (x3 : Int32).toNatClampNeg) - y4) = I6 → vp_in x3 3 ∧ vp_in x3 3 ∧ ∀ I9 : Nat → Nat → Int32, q_u I6 (o + 2) (x3 : Int32).toNatClampNeg ((I6 (x1 + 4) (x3 : Int32).toNatClampNeg) - y4) = I9 → vp_in x3 3 ∧ Ev (qGG D cA b E) mRealm_eat 1 (0, 0) 4 [(0, .ref o), (1, .ref x1), (2, .int ((x2 + (I9 (o + 2) (x3 : Int32).toNatClampNeg)))), (3, .int ((x3 + Int32.ofInt 1)))] [] (n, sh, Rf, I9, L) post))
set_option maxHeartbeats 4000000 in
set_option maxRecDepth 20000 in
theorem sRealm_eat_4 {D : va_G} {cA : FieldType → ClassId} {b : Nat} {E : State → Prop} (o : Nat) (n : Nat) (sh : Nat → qC) (Rf : Nat → Nat → Option Nat) (I : Nat → Nat → Int32) (L : Nat → Nat → Int64) (post : Option Value → qS → Prop) (x1 : Nat) (x2 : Int32) (x3 : Int32) (hok : q_ok (qGG D cA b E)) (hw : WfRealm (qGG D cA b E) n sh Rf o) (hw1 : WfLand (qGG D cA b E) n sh Rf x1) (H : fRealm_eat_4 D cA b E o n sh Rf I L post x1 x2 x3) : Ev (qGG D cA b E) mRealm_eat 1 (0, 0) 4 [(0, .ref o), (1, .ref x1), (2, .int x2), (3, .int x3)] [] (n, sh, Rf, I, L) post := by
  unfold fRealm_eat_4 at H
  refine ev_iload_n dRealm_eat_4 rfl ?_
  refine ev_aload_n dRealm_eat_5 rfl ?_
  refine ev_getI hok fk_Realm_64 (woLand hw1) (fun _ _ _ => rfl) dRealm_eat_6 ?_
  refine ev_icmp_ge 70 dRealm_eat_9 (by decide) (fun c1 => ?_) (fun c1 => ?_)
  · have H := H.1 c1
    refine ev_iload_n dRealm_eat_70 rfl ?_
    exact ev_iret rfl dRealm_eat_71 H
  · have H := H.2 c1
    refine ev_aload_n dRealm_eat_12 rfl ?_
    refine ev_getR hok fk_Realm_9 (woRealm hw) (fun _ _ _ => rfl) (wrRealm_0 hw) dRealm_eat_13 ?_
    refine ev_iload_n dRealm_eat_16 rfl ?_
    obtain ⟨h2, H⟩ := H
    refine ev_iald hok (waRealm_0 hw) h2 dRealm_eat_17 ?_
    refine ev_aload_n dRealm_eat_18 rfl ?_
    refine ev_getR hok fk_Realm_68 (woLand hw1) (fun _ _ _ => rfl) (wrLand_8 hw1) dRealm_eat_19 ?_
    refine ev_iload_n dRealm_eat_22 rfl ?_
    obtain ⟨h3, H⟩ := H
    refine ev_iald hok (waLand_8 hw1) h3 dRealm_eat_23 ?_
    refine ev_mmin (by decide) (q_t6 47 (by decide +kernel) rfl) (q_t4 44 (by decide +kernel) rfl) (q_t1 19 (by decide +kernel) rfl) (q_t4 45 rfl rfl) (Nat.le_of_ble_eq_true rfl) dRealm_eat_24 ?_
    generalize ey4 : ((if (I (x1 + 4) (x3 : Int32).toNatClampNeg) < (I (o + 1) (x3 : Int32).toNatClampNeg) then (I (x1 + 4) (x3 : Int32).toNatClampNeg) else (I (o + 1) (x3 : Int32).toNatClampNeg)) : Int32) = y4
    have H := H y4 ey4
    refine ev_istore dRealm_eat_27 (by decide) ?_
    refine ev_aload_n dRealm_eat_29 rfl ?_
    refine ev_getR hok fk_Realm_9 (woRealm hw) (fun _ _ _ => rfl) (wrRealm_0 hw) dRealm_eat_30 ?_
    refine ev_iload_n dRealm_eat_33 rfl ?_
    refine ev_dup2_11 dRealm_eat_34 rfl rfl ?_
    obtain ⟨h5, H⟩ := H
    refine ev_iald hok (waRealm_0 hw) h5 dRealm_eat_35 ?_
    refine ev_iload dRealm_eat_36 rfl ?_
    refine ev_isub dRealm_eat_38 ?_
    obtain ⟨h7, H⟩ := H
    refine ev_iast hok (waRealm_0 hw) h7 dRealm_eat_39 ?_
    generalize eI6 : q_u I (o + 1) (x3 : Int32).toNatClampNeg ((I (o + 1) (x3 : Int32).toNatClampNeg) - y4) = I6
    have H := H I6 eI6
    refine ev_aload_n dRealm_eat_40 rfl ?_
    refine ev_getR hok fk_Realm_15 (woRealm hw) (fun _ _ _ => rfl) (wrRealm_1 hw) dRealm_eat_41 ?_
    refine ev_iload_n dRealm_eat_44 rfl ?_
    refine ev_aload_n dRealm_eat_45 rfl ?_
    refine ev_getR hok fk_Realm_68 (woLand hw1) (fun _ _ _ => rfl) (wrLand_8 hw1) dRealm_eat_46 ?_
    refine ev_iload_n dRealm_eat_49 rfl ?_
    obtain ⟨h8, H⟩ := H
    refine ev_iald hok (waLand_8 hw1) h8 dRealm_eat_50 ?_
    refine ev_iload dRealm_eat_51 rfl ?_
    refine ev_isub dRealm_eat_53 ?_
    obtain ⟨h10, H⟩ := H
    refine ev_iast hok (waRealm_1 hw) h10 dRealm_eat_54 ?_
    generalize eI9 : q_u I6 (o + 2) (x3 : Int32).toNatClampNeg ((I6 (x1 + 4) (x3 : Int32).toNatClampNeg) - y4) = I9
    have H := H I9 eI9
    refine ev_iload_n dRealm_eat_55 rfl ?_
    refine ev_aload_n dRealm_eat_56 rfl ?_
    refine ev_getR hok fk_Realm_15 (woRealm hw) (fun _ _ _ => rfl) (wrRealm_1 hw) dRealm_eat_57 ?_
    refine ev_iload_n dRealm_eat_60 rfl ?_
    obtain ⟨h11, H⟩ := H
    refine ev_iald hok (waRealm_1 hw) h11 dRealm_eat_61 ?_
    refine ev_iadd dRealm_eat_62 ?_
    refine ev_istore_n dRealm_eat_63 (by decide) ?_
    refine ev_iinc dRealm_eat_64 rfl (by decide) ?_
    refine ev_goto 4 dRealm_eat_67 (by decide) ?_
    exact ev_sub [(0, .ref o), (1, .ref x1), (2, .int ((x2 + (I9 (o + 2) (x3 : Int32).toNatClampNeg)))), (3, .int ((x3 + Int32.ofInt 1)))] rfl H
def fRealm_eat_0 (D : va_G) (cA : FieldType → ClassId) (b : Nat) (E : State → Prop) (o : Nat) (n : Nat) (sh : Nat → qC) (Rf : Nat → Nat → Option Nat) (I : Nat → Nat → Int32) (L : Nat → Nat → Int64) (post : Option Value → qS → Prop) (x1 : Nat) : Prop :=
  Ev (qGG D cA b E) mRealm_eat 1 (0, 0) 4 [(0, .ref o), (1, .ref x1), (2, .int 0), (3, .int 0)] [] (n, sh, Rf, I, L) post
set_option maxHeartbeats 4000000 in
set_option maxRecDepth 20000 in
theorem sRealm_eat_0 {D : va_G} {cA : FieldType → ClassId} {b : Nat} {E : State → Prop} (o : Nat) (n : Nat) (sh : Nat → qC) (Rf : Nat → Nat → Option Nat) (I : Nat → Nat → Int32) (L : Nat → Nat → Int64) (post : Option Value → qS → Prop) (x1 : Nat) (hok : q_ok (qGG D cA b E)) (hw : WfRealm (qGG D cA b E) n sh Rf o) (hw1 : WfLand (qGG D cA b E) n sh Rf x1) (H : fRealm_eat_0 D cA b E o n sh Rf I L post x1) : Ev (qGG D cA b E) mRealm_eat 1 (0, 0) 0 [(0, .ref o), (1, .ref x1)] [] (n, sh, Rf, I, L) post := by
  unfold fRealm_eat_0 at H
  refine ev_iconst (0) dRealm_eat_0 (by decide) ?_
  refine ev_istore_n dRealm_eat_1 (by decide) ?_
  refine ev_iconst (0) dRealm_eat_2 (by decide) ?_
  refine ev_istore_n dRealm_eat_3 (by decide) ?_
  exact ev_sub [(0, .ref o), (1, .ref x1), (2, .int 0), (3, .int 0)] rfl H
