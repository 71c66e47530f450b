/-! Walks of the reference: by program. -/
def fModel_atLeastOne_0 (D : va_G) (cA : FieldType → ClassId) (b : Nat) (E : State → Prop) (n : Nat) (sh : Nat → qC) (Rf : Nat → Nat → Option Nat) (I : Nat → Nat → Int32) (L : Nat → Nat → Int64) (post : Option Value → qS → Prop) (x0 : Int32) : Prop :=
  ((1 ≤ x0 → post (some (.int x0)) (n, sh, Rf, I, L)) ∧ (¬ 1 ≤ x0 → post (some (.int 1)) (n, sh, Rf, I, L)))
set_option maxHeartbeats 4000000 in
set_option maxRecDepth 20000 in
theorem sModel_atLeastOne_0 {D : va_G} {cA : FieldType → ClassId} {b : Nat} {E : State → Prop} (n : Nat) (sh : Nat → qC) (Rf : Nat → Nat → Option Nat) (I : Nat → Nat → Int32) (L : Nat → Nat → Int64) (post : Option Value → qS → Prop) (x0 : Int32) (hok : q_ok (qGG D cA b E)) (H : fModel_atLeastOne_0 D cA b E n sh Rf I L post x0) : Ev (qGG D cA b E) mModel_atLeastOne 0 (0, 0) 0 [(0, .int x0)] [] (n, sh, Rf, I, L) post := by
  unfold fModel_atLeastOne_0 at H
  refine ev_iload_n dModel_atLeastOne_0 rfl ?_
  refine ev_iconst (1) dModel_atLeastOne_1 (by decide) ?_
  refine ev_icmp_ge 9 dModel_atLeastOne_2 (by decide) (fun c1 => ?_) (fun c1 => ?_)
  · have H := H.1 c1
    refine ev_iload_n dModel_atLeastOne_9 rfl ?_
    exact ev_iret rfl dModel_atLeastOne_10 H
  · have H := H.2 c1
    refine ev_iconst (1) dModel_atLeastOne_5 (by decide) ?_
    refine ev_goto 10 dModel_atLeastOne_6 (by decide) ?_
    exact ev_iret rfl dModel_atLeastOne_10 H
def fModel_copy_2 (D : va_G) (cA : FieldType → ClassId) (b : Nat) (E : State → Prop) (n : Nat) (sh : Nat → qC) (Rf : Nat → Nat → Option Nat) (I : Nat → Nat → Int32) (L : Nat → Nat → Int64) (post : Option Value → qS → Prop) (x0 : Nat) (x1 : Nat) (x2 : Int32) (x3 : Int32) (w0 : Nat) (w1 : Nat) : Prop :=
  ((x2 ≤ x3 → post none (n, sh, Rf, I, L)) ∧ (¬ x2 ≤ x3 → vp_in x3 w0 ∧ vp_in x3 w1 ∧ ∀ I3 : Nat → Nat → Int32, q_u I x1 (x3 : Int32).toNatClampNeg (I x0 (x3 : Int32).toNatClampNeg) = I3 → Ev (qGG D cA b E) mModel_copy 0 (0, 0) 2 [(0, .ref x0), (1, .ref x1), (2, .int x2), (3, .int ((x3 + Int32.ofInt 1)))] [] (n, sh, Rf, I3, L) post))
set_option maxHeartbeats 4000000 in
set_option maxRecDepth 20000 in
theorem sModel_copy_2 {D : va_G} {cA : FieldType → ClassId} {b : Nat} {E : State → Prop} (n : Nat) (sh : Nat → qC) (Rf : Nat → Nat → Option Nat) (I : Nat → Nat → Int32) (L : Nat → Nat → Int64) (post : Option Value → qS → Prop) (x0 : Nat) (x1 : Nat) (x2 : Int32) (x3 : Int32) (w0 : Nat) (w1 : Nat) (hok : q_ok (qGG D cA b E)) (hw0 : q_in (qGG D cA b E) (n, sh, Rf, I, L) x0 (.inl (.int, w0))) (hw1 : q_in (qGG D cA b E) (n, sh, Rf, I, L) x1 (.inl (.int, w1))) (H : fModel_copy_2 D cA b E n sh Rf I L post x0 x1 x2 x3 w0 w1) : Ev (qGG D cA b E) mModel_copy 0 (0, 0) 2 [(0, .ref x0), (1, .ref x1), (2, .int x2), (3, .int x3)] [] (n, sh, Rf, I, L) post := by
  unfold fModel_copy_2 at H
  refine ev_iload_n dModel_copy_2 rfl ?_
  refine ev_iload_n dModel_copy_3 rfl ?_
  refine ev_icmp_ge 19 dModel_copy_4 (by decide) (fun c1 => ?_) (fun c1 => ?_)
  · have H := H.1 c1
    exact ev_vret rfl dModel_copy_19 H
  · have H := H.2 c1
    refine ev_aload_n dModel_copy_7 rfl ?_
    refine ev_iload_n dModel_copy_8 rfl ?_
    refine ev_aload_n dModel_copy_9 rfl ?_
    refine ev_iload_n dModel_copy_10 rfl ?_
    obtain ⟨h2, H⟩ := H
    refine ev_iald hok hw0 h2 dModel_copy_11 ?_
    obtain ⟨h4, H⟩ := H
    refine ev_iast hok hw1 h4 dModel_copy_12 ?_
    generalize eI3 : q_u I x1 (x3 : Int32).toNatClampNeg (I x0 (x3 : Int32).toNatClampNeg) = I3
    have H := H I3 eI3
    refine ev_iinc dModel_copy_13 rfl (by decide) ?_
    refine ev_goto 2 dModel_copy_16 (by decide) ?_
    exact ev_sub [(0, .ref x0), (1, .ref x1), (2, .int x2), (3, .int ((x3 + Int32.ofInt 1)))] rfl H
def fModel_copy_0 (D : va_G) (cA : FieldType → ClassId) (b : Nat) (E : State → Prop) (n : Nat) (sh : Nat → qC) (Rf : Nat → Nat → Option Nat) (I : Nat → Nat → Int32) (L : Nat → Nat → Int64) (post : Option Value → qS → Prop) (x0 : Nat) (x1 : Nat) (x2 : Int32) (w0 : Nat) (w1 : Nat) : Prop :=
  Ev (qGG D cA b E) mModel_copy 0 (0, 0) 2 [(0, .ref x0), (1, .ref x1), (2, .int x2), (3, .int 0)] [] (n, sh, Rf, I, L) post
set_option maxHeartbeats 4000000 in
set_option maxRecDepth 20000 in
theorem sModel_copy_0 {D : va_G} {cA : FieldType → ClassId} {b : Nat} {E : State → Prop} (n : Nat) (sh : Nat → qC) (Rf : Nat → Nat → Option Nat) (I : Nat → Nat → Int32) (L : Nat → Nat → Int64) (post : Option Value → qS → Prop) (x0 : Nat) (x1 : Nat) (x2 : Int32) (w0 : Nat) (w1 : Nat) (hok : q_ok (qGG D cA b E)) (hw0 : q_in (qGG D cA b E) (n, sh, Rf, I, L) x0 (.inl (.int, w0))) (hw1 : q_in (qGG D cA b E) (n, sh, Rf, I, L) x1 (.inl (.int, w1))) (H : fModel_copy_0 D cA b E n sh Rf I L post x0 x1 x2 w0 w1) : Ev (qGG D cA b E) mModel_copy 0 (0, 0) 0 [(0, .ref x0), (1, .ref x1), (2, .int x2)] [] (n, sh, Rf, I, L) post := by
  unfold fModel_copy_0 at H
  refine ev_iconst (0) dModel_copy_0 (by decide) ?_
  refine ev_istore_n dModel_copy_1 (by decide) ?_
  exact ev_sub [(0, .ref x0), (1, .ref x1), (2, .int x2), (3, .int 0)] rfl H
def fModel_copyLongs_2 (D : va_G) (cA : FieldType → ClassId) (b : Nat) (E : State → Prop) (n : Nat) (sh : Nat → qC) (Rf : Nat → Nat → Option Nat) (I : Nat → Nat → Int32) (L : Nat → Nat → Int64) (post : Option Value → qS → Prop) (x0 : Nat) (x1 : Nat) (x2 : Int32) (x3 : Int32) (w0 : Nat) (w1 : Nat) : Prop :=
  ((x2 ≤ x3 → post none (n, sh, Rf, I, L)) ∧ (¬ x2 ≤ x3 → vp_in x3 w0 ∧ vp_in x3 w1 ∧ ∀ L3 : Nat → Nat → Int64, q_u L x1 (x3 : Int32).toNatClampNeg (L x0 (x3 : Int32).toNatClampNeg) = L3 → Ev (qGG D cA b E) mModel_copyLongs 0 (0, 0) 2 [(0, .ref x0), (1, .ref x1), (2, .int x2), (3, .int ((x3 + Int32.ofInt 1)))] [] (n, sh, Rf, I, L3) post))
set_option maxHeartbeats 4000000 in
set_option maxRecDepth 20000 in
theorem sModel_copyLongs_2 {D : va_G} {cA : FieldType → ClassId} {b : Nat} {E : State → Prop} (n : Nat) (sh : Nat → qC) (Rf : Nat → Nat → Option Nat) (I : Nat → Nat → Int32) (L : Nat → Nat → Int64) (post : Option Value → qS → Prop) (x0 : Nat) (x1 : Nat) (x2 : Int32) (x3 : Int32) (w0 : Nat) (w1 : Nat) (hok : q_ok (qGG D cA b E)) (hw0 : q_in (qGG D cA b E) (n, sh, Rf, I, L) x0 (.inl (.long, w0))) (hw1 : q_in (qGG D cA b E) (n, sh, Rf, I, L) x1 (.inl (.long, w1))) (H : fModel_copyLongs_2 D cA b E n sh Rf I L post x0 x1 x2 x3 w0 w1) : Ev (qGG D cA b E) mModel_copyLongs 0 (0, 0) 2 [(0, .ref x0), (1, .ref x1), (2, .int x2), (3, .int x3)] [] (n, sh, Rf, I, L) post := by
  unfold fModel_copyLongs_2 at H
  refine ev_iload_n dModel_copyLongs_2 rfl ?_
  refine ev_iload_n dModel_copyLongs_3 rfl ?_
  refine ev_icmp_ge 19 dModel_copyLongs_4 (by decide) (fun c1 => ?_) (fun c1 => ?_)
  · have H := H.1 c1
    exact ev_vret rfl dModel_copyLongs_19 H
  · have H := H.2 c1
    refine ev_aload_n dModel_copyLongs_7 rfl ?_
    refine ev_iload_n dModel_copyLongs_8 rfl ?_
    refine ev_aload_n dModel_copyLongs_9 rfl ?_
    refine ev_iload_n dModel_copyLongs_10 rfl ?_
    obtain ⟨h2, H⟩ := H
    refine ev_lald hok hw0 h2 dModel_copyLongs_11 ?_
    obtain ⟨h4, H⟩ := H
    refine ev_last hok hw1 h4 dModel_copyLongs_12 ?_
    generalize eL3 : q_u L x1 (x3 : Int32).toNatClampNeg (L x0 (x3 : Int32).toNatClampNeg) = L3
    have H := H L3 eL3
    refine ev_iinc dModel_copyLongs_13 rfl (by decide) ?_
    refine ev_goto 2 dModel_copyLongs_16 (by decide) ?_
    exact ev_sub [(0, .ref x0), (1, .ref x1), (2, .int x2), (3, .int ((x3 + Int32.ofInt 1)))] rfl H
def fModel_copyLongs_0 (D : va_G) (cA : FieldType → ClassId) (b : Nat) (E : State → Prop) (n : Nat) (sh : Nat → qC) (Rf : Nat → Nat → Option Nat) (I : Nat → Nat → Int32) (L : Nat → Nat → Int64) (post : Option Value → qS → Prop) (x0 : Nat) (x1 : Nat) (x2 : Int32) (w0 : Nat) (w1 : Nat) : Prop :=
  Ev (qGG D cA b E) mModel_copyLongs 0 (0, 0) 2 [(0, .ref x0), (1, .ref x1), (2, .int x2), (3, .int 0)] [] (n, sh, Rf, I, L) post
set_option maxHeartbeats 4000000 in
set_option maxRecDepth 20000 in
theorem sModel_copyLongs_0 {D : va_G} {cA : FieldType → ClassId} {b : Nat} {E : State → Prop} (n : Nat) (sh : Nat → qC) (Rf : Nat → Nat → Option Nat) (I : Nat → Nat → Int32) (L : Nat → Nat → Int64) (post : Option Value → qS → Prop) (x0 : Nat) (x1 : Nat) (x2 : Int32) (w0 : Nat) (w1 : Nat) (hok : q_ok (qGG D cA b E)) (hw0 : q_in (qGG D cA b E) (n, sh, Rf, I, L) x0 (.inl (.long, w0))) (hw1 : q_in (qGG D cA b E) (n, sh, Rf, I, L) x1 (.inl (.long, w1))) (H : fModel_copyLongs_0 D cA b E n sh Rf I L post x0 x1 x2 w0 w1) : Ev (qGG D cA b E) mModel_copyLongs 0 (0, 0) 0 [(0, .ref x0), (1, .ref x1), (2, .int x2)] [] (n, sh, Rf, I, L) post := by
  unfold fModel_copyLongs_0 at H
  refine ev_iconst (0) dModel_copyLongs_0 (by decide) ?_
  refine ev_istore_n dModel_copyLongs_1 (by decide) ?_
  exact ev_sub [(0, .ref x0), (1, .ref x1), (2, .int x2), (3, .int 0)] rfl H
def fModel_copyTruths_2 (D : va_G) (cA : FieldType → ClassId) (b : Nat) (E : State → Prop) (n : Nat) (sh : Nat → qC) (Rf : Nat → Nat → Option Nat) (I : Nat → Nat → Int32) (L : Nat → Nat → Int64) (post : Option Value → qS → Prop) (x0 : Nat) (x1 : Nat) (x2 : Int32) (x3 : Int32) (w0 : Nat) (w1 : Nat) : Prop :=
  ((x2 ≤ x3 → post none (n, sh, Rf, I, L)) ∧ (¬ x2 ≤ x3 → vp_in x3 w0 ∧ vp_in x3 w1 ∧ ∀ I3 : Nat → Nat → Int32, q_u I x1 (x3 : Int32).toNatClampNeg (vp_nar .boolean (I x0 (x3 : Int32).toNatClampNeg)) = I3 → Ev (qGG D cA b E) mModel_copyTruths 0 (0, 0) 2 [(0, .ref x0), (1, .ref x1), (2, .int x2), (3, .int ((x3 + Int32.ofInt 1)))] [] (n, sh, Rf, I3, L) post))
set_option maxHeartbeats 4000000 in
set_option maxRecDepth 20000 in
theorem sModel_copyTruths_2 {D : va_G} {cA : FieldType → ClassId} {b : Nat} {E : State → Prop} (n : Nat) (sh : Nat → qC) (Rf : Nat → Nat → Option Nat) (I : Nat → Nat → Int32) (L : Nat → Nat → Int64) (post : Option Value → qS → Prop) (x0 : Nat) (x1 : Nat) (x2 : Int32) (x3 : Int32) (w0 : Nat) (w1 : Nat) (hok : q_ok (qGG D cA b E)) (hw0 : q_in (qGG D cA b E) (n, sh, Rf, I, L) x0 (.inl (.boolean, w0))) (hw1 : q_in (qGG D cA b E) (n, sh, Rf, I, L) x1 (.inl (.boolean, w1))) (H : fModel_copyTruths_2 D cA b E n sh Rf I L post x0 x1 x2 x3 w0 w1) : Ev (qGG D cA b E) mModel_copyTruths 0 (0, 0) 2 [(0, .ref x0), (1, .ref x1), (2, .int x2), (3, .int x3)] [] (n, sh, Rf, I, L) post := by
  unfold fModel_copyTruths_2 at H
  refine ev_iload_n dModel_copyTruths_2 rfl ?_
  refine ev_iload_n dModel_copyTruths_3 rfl ?_
  refine ev_icmp_ge 19 dModel_copyTruths_4 (by decide) (fun c1 => ?_) (fun c1 => ?_)
  · have H := H.1 c1
    exact ev_vret rfl dModel_copyTruths_19 H
  · have H := H.2 c1
    refine ev_aload_n dModel_copyTruths_7 rfl ?_
    refine ev_iload_n dModel_copyTruths_8 rfl ?_
    refine ev_aload_n dModel_copyTruths_9 rfl ?_
    refine ev_iload_n dModel_copyTruths_10 rfl ?_
    obtain ⟨h2, H⟩ := H
    refine ev_zald hok hw0 h2 dModel_copyTruths_11 ?_
    obtain ⟨h4, H⟩ := H
    refine ev_zast hok hw1 h4 dModel_copyTruths_12 ?_
    generalize eI3 : q_u I x1 (x3 : Int32).toNatClampNeg (vp_nar .boolean (I x0 (x3 : Int32).toNatClampNeg)) = I3
    have H := H I3 eI3
    refine ev_iinc dModel_copyTruths_13 rfl (by decide) ?_
    refine ev_goto 2 dModel_copyTruths_16 (by decide) ?_
    exact ev_sub [(0, .ref x0), (1, .ref x1), (2, .int x2), (3, .int ((x3 + Int32.ofInt 1)))] rfl H
def fModel_copyTruths_0 (D : va_G) (cA : FieldType → ClassId) (b : Nat) (E : State → Prop) (n : Nat) (sh : Nat → qC) (Rf : Nat → Nat → Option Nat) (I : Nat → Nat → Int32) (L : Nat → Nat → Int64) (post : Option Value → qS → Prop) (x0 : Nat) (x1 : Nat) (x2 : Int32) (w0 : Nat) (w1 : Nat) : Prop :=
  Ev (qGG D cA b E) mModel_copyTruths 0 (0, 0) 2 [(0, .ref x0), (1, .ref x1), (2, .int x2), (3, .int 0)] [] (n, sh, Rf, I, L) post
set_option maxHeartbeats 4000000 in
set_option maxRecDepth 20000 in
theorem sModel_copyTruths_0 {D : va_G} {cA : FieldType → ClassId} {b : Nat} {E : State → Prop} (n : Nat) (sh : Nat → qC) (Rf : Nat → Nat → Option Nat) (I : Nat → Nat → Int32) (L : Nat → Nat → Int64) (post : Option Value → qS → Prop) (x0 : Nat) (x1 : Nat) (x2 : Int32) (w0 : Nat) (w1 : Nat) (hok : q_ok (qGG D cA b E)) (hw0 : q_in (qGG D cA b E) (n, sh, Rf, I, L) x0 (.inl (.boolean, w0))) (hw1 : q_in (qGG D cA b E) (n, sh, Rf, I, L) x1 (.inl (.boolean, w1))) (H : fModel_copyTruths_0 D cA b E n sh Rf I L post x0 x1 x2 w0 w1) : Ev (qGG D cA b E) mModel_copyTruths 0 (0, 0) 0 [(0, .ref x0), (1, .ref x1), (2, .int x2)] [] (n, sh, Rf, I, L) post := by
  unfold fModel_copyTruths_0 at H
  refine ev_iconst (0) dModel_copyTruths_0 (by decide) ?_
  refine ev_istore_n dModel_copyTruths_1 (by decide) ?_
  exact ev_sub [(0, .ref x0), (1, .ref x1), (2, .int x2), (3, .int 0)] rfl H
def fModel_counts_45 (D : va_G) (cA : FieldType → ClassId) (b : Nat) (E : State → Prop) (o : Nat) (n : Nat) (sh : Nat → qC) (Rf : Nat → Nat → Option Nat) (I : Nat → Nat → Int32) (L : Nat → Nat → Int64) (post : Option Value → qS → Prop) (x1 : Int32) (x2 : Int32) : Prop :=
  post (some (.int 1)) (n, sh, Rf, I, L)
set_option maxHeartbeats 4000000 in
set_option maxRecDepth 20000 in
theorem sModel_counts_45 {D : va_G} {cA : FieldType → ClassId} {b : Nat} {E : State → Prop} (o : Nat) (n : Nat) (sh : Nat → qC) (Rf : Nat → Nat → Option Nat) (I : Nat → Nat → Int32) (L : Nat → Nat → Int64) (post : Option Value → qS → Prop) (x1 : Int32) (x2 : Int32) (hok : q_ok (qGG D cA b E)) (hw : WfModel (qGG D cA b E) n sh Rf o) (H : fModel_counts_45 D cA b E o n sh Rf I L post x1 x2) : Ev (qGG D cA b E) mModel_counts 0 (0, 0) 45 [(0, .ref o), (1, .int x1), (2, .int x2)] [] (n, sh, Rf, I, L) post := by
  unfold fModel_counts_45 at H
  refine ev_iconst (1) dModel_counts_45 (by decide) ?_
  refine ev_goto 50 dModel_counts_46 (by decide) ?_
  exact ev_zret rfl (by decide) dModel_counts_50 H
def fModel_counts_0 (D : va_G) (cA : FieldType → ClassId) (b : Nat) (E : State → Prop) (o : Nat) (n : Nat) (sh : Nat → qC) (Rf : Nat → Nat → Option Nat) (I : Nat → Nat → Int32) (L : Nat → Nat → Int64) (post : Option Value → qS → Prop) (x1 : Int32) (x2 : Int32) : Prop :=
  vp_in x1 40 ∧ ((¬ (I (o + 36) (x1 : Int32).toNatClampNeg) = x2 → post (some (.int 0)) (n, sh, Rf, I, L)) ∧ ((I (o + 36) (x1 : Int32).toNatClampNeg) = x2 → vp_in x1 40 ∧ (((I o 74) < (I (o + 40) (x1 : Int32).toNatClampNeg) → post (some (.int 0)) (n, sh, Rf, I, L)) ∧ (¬ (I o 74) < (I (o + 40) (x1 : Int32).toNatClampNeg) → vp_in x1 40 ∧ (((I (o + 41) (x1 : Int32).toNatClampNeg) < 0 → fModel_counts_45 D cA b E o n sh Rf I L post x1 x2) ∧ (¬ (I (o + 41) (x1 : Int32).toNatClampNeg) < 0 → vp_in x1 40 ∧ (((I (o + 41) (x1 : Int32).toNatClampNeg) ≤ (I o 74) → post (some (.int 0)) (n, sh, Rf, I, L)) ∧ (¬ (I (o + 41) (x1 : Int32).toNatClampNeg) ≤ (I o 74) → fModel_counts_45 D cA b E o n sh Rf I L post x1 x2))))))))
set_option maxHeartbeats 4000000 in
set_option maxRecDepth 20000 in
theorem sModel_counts_0 {D : va_G} {cA : FieldType → ClassId} {b : Nat} {E : State → Prop} (o : Nat) (n : Nat) (sh : Nat → qC) (Rf : Nat → Nat → Option Nat) (I : Nat → Nat → Int32) (L : Nat → Nat → Int64) (post : Option Value → qS → Prop) (x1 : Int32) (x2 : Int32) (hok : q_ok (qGG D cA b E)) (hw : WfModel (qGG D cA b E) n sh Rf o) (H : fModel_counts_0 D cA b E o n sh Rf I L post x1 x2) : Ev (qGG D cA b E) mModel_counts 0 (0, 0) 0 [(0, .ref o), (1, .int x1), (2, .int x2)] [] (n, sh, Rf, I, L) post := by
  unfold fModel_counts_0 at H
  refine ev_aload_n dModel_counts_0 rfl ?_
  refine ev_getR hok fk_Model_412 (woModel hw) (fun _ _ _ => rfl) (wrModel_60 hw) dModel_counts_1 ?_
  refine ev_iload_n dModel_counts_4 rfl ?_
  obtain ⟨h1, H⟩ := H
  refine ev_iald hok (waModel_60 hw) h1 dModel_counts_5 ?_
  refine ev_iload_n dModel_counts_6 rfl ?_
  refine ev_icmp_ne 49 dModel_counts_7 (by decide) (fun c2 => ?_) (fun c2 => ?_)
  · have H := H.1 c2
    refine ev_iconst (0) dModel_counts_49 (by decide) ?_
    exact ev_zret rfl (by decide) dModel_counts_50 H
  · have H := H.2 c2
    refine ev_aload_n dModel_counts_10 rfl ?_
    refine ev_getR hok fk_Model_424 (woModel hw) (fun _ _ _ => rfl) (wrModel_64 hw) dModel_counts_11 ?_
    refine ev_iload_n dModel_counts_14 rfl ?_
    obtain ⟨h3, H⟩ := H
    refine ev_iald hok (waModel_64 hw) h3 dModel_counts_15 ?_
    refine ev_aload_n dModel_counts_16 rfl ?_
    refine ev_getI hok fk_Model_444 (woModel hw) (fun _ _ _ => rfl) dModel_counts_17 ?_
    refine ev_icmp_gt 49 dModel_counts_20 (by decide) (fun c4 => ?_) (fun c4 => ?_)
    · have H := H.1 c4
      refine ev_iconst (0) dModel_counts_49 (by decide) ?_
      exact ev_zret rfl (by decide) dModel_counts_50 H
    · have H := H.2 c4
      refine ev_aload_n dModel_counts_23 rfl ?_
      refine ev_getR hok fk_Model_430 (woModel hw) (fun _ _ _ => rfl) (wrModel_65 hw) dModel_counts_24 ?_
      refine ev_iload_n dModel_counts_27 rfl ?_
      obtain ⟨h5, H⟩ := H
      refine ev_iald hok (waModel_65 hw) h5 dModel_counts_28 ?_
      refine ev_if_lt 45 dModel_counts_29 (by decide) (fun c6 => ?_) (fun c6 => ?_)
      · have H := H.1 c6
        exact ev_sub [(0, .ref o), (1, .int x1), (2, .int x2)] rfl (sModel_counts_45 o n sh Rf I L post x1 x2 hok hw H)
      · have H := H.2 c6
        refine ev_aload_n dModel_counts_32 rfl ?_
        refine ev_getR hok fk_Model_430 (woModel hw) (fun _ _ _ => rfl) (wrModel_65 hw) dModel_counts_33 ?_
        refine ev_iload_n dModel_counts_36 rfl ?_
        obtain ⟨h7, H⟩ := H
        refine ev_iald hok (waModel_65 hw) h7 dModel_counts_37 ?_
        refine ev_aload_n dModel_counts_38 rfl ?_
        refine ev_getI hok fk_Model_444 (woModel hw) (fun _ _ _ => rfl) dModel_counts_39 ?_
        refine ev_icmp_le 49 dModel_counts_42 (by decide) (fun c8 => ?_) (fun c8 => ?_)
        · have H := H.1 c8
          refine ev_iconst (0) dModel_counts_49 (by decide) ?_
          exact ev_zret rfl (by decide) dModel_counts_50 H
        · have H := H.2 c8
          exact ev_sub [(0, .ref o), (1, .int x1), (2, .int x2)] rfl (sModel_counts_45 o n sh Rf I L post x1 x2 hok hw H)
def fModel_end_0 (D : va_G) (cA : FieldType → ClassId) (b : Nat) (E : State → Prop) (o : Nat) (n : Nat) (sh : Nat → qC) (Rf : Nat → Nat → Option Nat) (I : Nat → Nat → Int32) (L : Nat → Nat → Int64) (post : Option Value → qS → Prop) (x1 : Int32) : Prop :=
  ((x1 < 0 → post (some (.int ((-1)))) (n, sh, Rf, I, L)) ∧ (¬ x1 < 0 → ((x1 ≤ (I o 2) → ∀ I3 : Nat → Nat → Int32, q_u I o 2 x1 = I3 → post (some (.int x1)) (n, sh, Rf, I3, L)) ∧ (¬ x1 ≤ (I o 2) → post (some (.int ((-1)))) (n, sh, Rf, I, L)))))
set_option maxHeartbeats 4000000 in
set_option maxRecDepth 20000 in
theorem sModel_end_0 {D : va_G} {cA : FieldType → ClassId} {b : Nat} {E : State → Prop} (o : Nat) (n : Nat) (sh : Nat → qC) (Rf : Nat → Nat → Option Nat) (I : Nat → Nat → Int32) (L : Nat → Nat → Int64) (post : Option Value → qS → Prop) (x1 : Int32) (hok : q_ok (qGG D cA b E)) (hw : WfModel (qGG D cA b E) n sh Rf o) (H : fModel_end_0 D cA b E o n sh Rf I L post x1) : Ev (qGG D cA b E) mModel_end 0 (0, 0) 0 [(0, .ref o), (1, .int x1)] [] (n, sh, Rf, I, L) post := by
  unfold fModel_end_0 at H
  refine ev_iload_n dModel_end_0 rfl ?_
  refine ev_if_lt 12 dModel_end_1 (by decide) (fun c1 => ?_) (fun c1 => ?_)
  · have H := H.1 c1
    refine ev_iconst (-1) dModel_end_12 (by decide) ?_
    exact ev_iret rfl dModel_end_13 H
  · have H := H.2 c1
    refine ev_iload_n dModel_end_4 rfl ?_
    refine ev_aload_n dModel_end_5 rfl ?_
    refine ev_getI hok fk_Model_137 (woModel hw) (fun _ _ _ => rfl) dModel_end_6 ?_
    refine ev_icmp_le 14 dModel_end_9 (by decide) (fun c2 => ?_) (fun c2 => ?_)
    · have H := H.1 c2
      refine ev_aload_n dModel_end_14 rfl ?_
      refine ev_iload_n dModel_end_15 rfl ?_
      refine ev_putI hok fk_Model_137 (woModel hw) (fun _ _ _ => rfl) rfl rfl dModel_end_16 ?_
      generalize eI3 : q_u I o 2 x1 = I3
      have H := H I3 eI3
      refine ev_iload_n dModel_end_19 rfl ?_
      exact ev_iret rfl dModel_end_20 H
    · have H := H.2 c2
      refine ev_iconst (-1) dModel_end_12 (by decide) ?_
      exact ev_iret rfl dModel_end_13 H
def fModel_fact_0 (D : va_G) (cA : FieldType → ClassId) (b : Nat) (E : State → Prop) (o : Nat) (n : Nat) (sh : Nat → qC) (Rf : Nat → Nat → Option Nat) (I : Nat → Nat → Int32) (L : Nat → Nat → Int64) (post : Option Value → qS → Prop) (x1 : Int32) (x2 : Int32) (x3 : Int32) (x4 : Int32) : Prop :=
  ((¬ (I o 67) = 40 → vp_in (I o 67) 40 ∧ ∀ I2 : Nat → Nat → Int32, q_u I (o + 36) ((I o 67) : Int32).toNatClampNeg x1 = I2 → vp_in (I2 o 67) 40 ∧ ∀ I4 : Nat → Nat → Int32, q_u I2 (o + 37) ((I2 o 67) : Int32).toNatClampNeg x2 = I4 → vp_in (I4 o 67) 40 ∧ ∀ I6 : Nat → Nat → Int32, q_u I4 (o + 38) ((I4 o 67) : Int32).toNatClampNeg x3 = I6 → vp_in (I6 o 67) 40 ∧ ∀ I8 : Nat → Nat → Int32, q_u I6 (o + 39) ((I6 o 67) : Int32).toNatClampNeg x4 = I8 → vp_in (I8 o 67) 40 ∧ ∀ I10 : Nat → Nat → Int32, q_u I8 (o + 40) ((I8 o 67) : Int32).toNatClampNeg (I8 o 68) = I10 → vp_in (I10 o 67) 40 ∧ ∀ I12 : Nat → Nat → Int32, q_u I10 (o + 41) ((I10 o 67) : Int32).toNatClampNeg (-1) = I12 → ∀ I14 : Nat → Nat → Int32, q_u I12 o 67 ((I12 o 67) + 1) = I14 → post (some (.int (((I14 o 67) - 1)))) (n, sh, Rf, I14, L)) ∧ ((I o 67) = 40 → post (some (.int ((-1)))) (n, sh, Rf, I, L)))
set_option maxHeartbeats 4000000 in
set_option maxRecDepth 20000 in
theorem sModel_fact_0 {D : va_G} {cA : FieldType → ClassId} {b : Nat} {E : State → Prop} (o : Nat) (n : Nat) (sh : Nat → qC) (Rf : Nat → Nat → Option Nat) (I : Nat → Nat → Int32) (L : Nat → Nat → Int64) (post : Option Value → qS → Prop) (x1 : Int32) (x2 : Int32) (x3 : Int32) (x4 : Int32) (hok : q_ok (qGG D cA b E)) (hw : WfModel (qGG D cA b E) n sh Rf o) (H : fModel_fact_0 D cA b E o n sh Rf I L post x1 x2 x3 x4) : Ev (qGG D cA b E) mModel_fact 0 (0, 0) 0 [(0, .ref o), (1, .int x1), (2, .int x2), (3, .int x3), (4, .int x4)] [] (n, sh, Rf, I, L) post := by
  unfold fModel_fact_0 at H
  refine ev_aload_n dModel_fact_0 rfl ?_
  refine ev_getI hok fk_Model_169 (woModel hw) (fun _ _ _ => rfl) dModel_fact_1 ?_
  refine ev_bipush (40) dModel_fact_4 (by decide) ?_
  refine ev_icmp_ne 11 dModel_fact_6 (by decide) (fun c1 => ?_) (fun c1 => ?_)
  · have H := H.1 c1
    refine ev_aload_n dModel_fact_11 rfl ?_
    refine ev_getR hok fk_Model_412 (woModel hw) (fun _ _ _ => rfl) (wrModel_60 hw) dModel_fact_12 ?_
    refine ev_aload_n dModel_fact_15 rfl ?_
    refine ev_getI hok fk_Model_169 (woModel hw) (fun _ _ _ => rfl) dModel_fact_16 ?_
    refine ev_iload_n dModel_fact_19 rfl ?_
    obtain ⟨h3, H⟩ := H
    refine ev_iast hok (waModel_60 hw) h3 dModel_fact_20 ?_
    generalize eI2 : q_u I (o + 36) ((I o 67) : Int32).toNatClampNeg x1 = I2
    have H := H I2 eI2
    refine ev_aload_n dModel_fact_21 rfl ?_
    refine ev_getR hok fk_Model_415 (woModel hw) (fun _ _ _ => rfl) (wrModel_61 hw) dModel_fact_22 ?_
    refine ev_aload_n dModel_fact_25 rfl ?_
    refine ev_getI hok fk_Model_169 (woModel hw) (fun _ _ _ => rfl) dModel_fact_26 ?_
    refine ev_iload_n dModel_fact_29 rfl ?_
    obtain ⟨h5, H⟩ := H
    refine ev_iast hok (waModel_61 hw) h5 dModel_fact_30 ?_
    generalize eI4 : q_u I2 (o + 37) ((I2 o 67) : Int32).toNatClampNeg x2 = I4
    have H := H I4 eI4
    refine ev_aload_n dModel_fact_31 rfl ?_
    refine ev_getR hok fk_Model_418 (woModel hw) (fun _ _ _ => rfl) (wrModel_62 hw) dModel_fact_32 ?_
    refine ev_aload_n dModel_fact_35 rfl ?_
    refine ev_getI hok fk_Model_169 (woModel hw) (fun _ _ _ => rfl) dModel_fact_36 ?_
    refine ev_iload_n dModel_fact_39 rfl ?_
    obtain ⟨h7, H⟩ := H
    refine ev_iast hok (waModel_62 hw) h7 dModel_fact_40 ?_
    generalize eI6 : q_u I4 (o + 38) ((I4 o 67) : Int32).toNatClampNeg x3 = I6
    have H := H I6 eI6
    refine ev_aload_n dModel_fact_41 rfl ?_
    refine ev_getR hok fk_Model_421 (woModel hw) (fun _ _ _ => rfl) (wrModel_63 hw) dModel_fact_42 ?_
    refine ev_aload_n dModel_fact_45 rfl ?_
    refine ev_getI hok fk_Model_169 (woModel hw) (fun _ _ _ => rfl) dModel_fact_46 ?_
    refine ev_iload dModel_fact_49 rfl ?_
    obtain ⟨h9, H⟩ := H
    refine ev_iast hok (waModel_63 hw) h9 dModel_fact_51 ?_
    generalize eI8 : q_u I6 (o + 39) ((I6 o 67) : Int32).toNatClampNeg x4 = I8
    have H := H I8 eI8
    refine ev_aload_n dModel_fact_52 rfl ?_
    refine ev_getR hok fk_Model_424 (woModel hw) (fun _ _ _ => rfl) (wrModel_64 hw) dModel_fact_53 ?_
    refine ev_aload_n dModel_fact_56 rfl ?_
    refine ev_getI hok fk_Model_169 (woModel hw) (fun _ _ _ => rfl) dModel_fact_57 ?_
    refine ev_aload_n dModel_fact_60 rfl ?_
    refine ev_getI hok fk_Model_427 (woModel hw) (fun _ _ _ => rfl) dModel_fact_61 ?_
    obtain ⟨h11, H⟩ := H
    refine ev_iast hok (waModel_64 hw) h11 dModel_fact_64 ?_
    generalize eI10 : q_u I8 (o + 40) ((I8 o 67) : Int32).toNatClampNeg (I8 o 68) = I10
    have H := H I10 eI10
    refine ev_aload_n dModel_fact_65 rfl ?_
    refine ev_getR hok fk_Model_430 (woModel hw) (fun _ _ _ => rfl) (wrModel_65 hw) dModel_fact_66 ?_
    refine ev_aload_n dModel_fact_69 rfl ?_
    refine ev_getI hok fk_Model_169 (woModel hw) (fun _ _ _ => rfl) dModel_fact_70 ?_
    refine ev_iconst (-1) dModel_fact_73 (by decide) ?_
    obtain ⟨h13, H⟩ := H
    refine ev_iast hok (waModel_65 hw) h13 dModel_fact_74 ?_
    generalize eI12 : q_u I10 (o + 41) ((I10 o 67) : Int32).toNatClampNeg (-1) = I12
    have H := H I12 eI12
    refine ev_aload_n dModel_fact_75 rfl ?_
    refine ev_dup dModel_fact_76 rfl ?_
    refine ev_getI hok fk_Model_169 (woModel hw) (fun _ _ _ => rfl) dModel_fact_77 ?_
    refine ev_iconst (1) dModel_fact_80 (by decide) ?_
    refine ev_iadd dModel_fact_81 ?_
    refine ev_putI hok fk_Model_169 (woModel hw) (fun _ _ _ => rfl) rfl rfl dModel_fact_82 ?_
    generalize eI14 : q_u I12 o 67 ((I12 o 67) + 1) = I14
    have H := H I14 eI14
    refine ev_aload_n dModel_fact_85 rfl ?_
    refine ev_getI hok fk_Model_169 (woModel hw) (fun _ _ _ => rfl) dModel_fact_86 ?_
    refine ev_iconst (1) dModel_fact_89 (by decide) ?_
    refine ev_isub dModel_fact_90 ?_
    exact ev_iret rfl dModel_fact_91 H
  · have H := H.2 c1
    refine ev_iconst (-1) dModel_fact_9 (by decide) ?_
    exact ev_iret rfl dModel_fact_10 H
def fModel_fails_0 (D : va_G) (cA : FieldType → ClassId) (b : Nat) (E : State → Prop) (o : Nat) (n : Nat) (sh : Nat → qC) (Rf : Nat → Nat → Option Nat) (I : Nat → Nat → Int32) (L : Nat → Nat → Int64) (post : Option Value → qS → Prop) (x1 : Int32) (x2 : Int32) : Prop :=
  (((I o 4) ≤ 0 → ∀ I2 : Nat → Nat → Int32, q_u I o 4 x1 = I2 → ∀ I3 : Nat → Nat → Int32, q_u I2 o 5 x2 = I3 → post none (n, sh, Rf, I3, L)) ∧ (¬ (I o 4) ≤ 0 → post none (n, sh, Rf, I, L)))
set_option maxHeartbeats 4000000 in
set_option maxRecDepth 20000 in
theorem sModel_fails_0 {D : va_G} {cA : FieldType → ClassId} {b : Nat} {E : State → Prop} (o : Nat) (n : Nat) (sh : Nat → qC) (Rf : Nat → Nat → Option Nat) (I : Nat → Nat → Int32) (L : Nat → Nat → Int64) (post : Option Value → qS → Prop) (x1 : Int32) (x2 : Int32) (hok : q_ok (qGG D cA b E)) (hw : WfModel (qGG D cA b E) n sh Rf o) (H : fModel_fails_0 D cA b E o n sh Rf I L post x1 x2) : Ev (qGG D cA b E) mModel_fails 0 (0, 0) 0 [(0, .ref o), (1, .int x1), (2, .int x2)] [] (n, sh, Rf, I, L) post := by
  unfold fModel_fails_0 at H
  refine ev_aload_n dModel_fails_0 rfl ?_
  refine ev_getI hok fk_Model_11 (woModel hw) (fun _ _ _ => rfl) dModel_fails_1 ?_
  refine ev_if_le 8 dModel_fails_4 (by decide) (fun c1 => ?_) (fun c1 => ?_)
  · have H := H.1 c1
    refine ev_aload_n dModel_fails_8 rfl ?_
    refine ev_iload_n dModel_fails_9 rfl ?_
    refine ev_putI hok fk_Model_11 (woModel hw) (fun _ _ _ => rfl) rfl rfl dModel_fails_10 ?_
    generalize eI2 : q_u I o 4 x1 = I2
    have H := H I2 eI2
    refine ev_aload_n dModel_fails_13 rfl ?_
    refine ev_iload_n dModel_fails_14 rfl ?_
    refine ev_putI hok fk_Model_14 (woModel hw) (fun _ _ _ => rfl) rfl rfl dModel_fails_15 ?_
    generalize eI3 : q_u I2 o 5 x2 = I3
    have H := H I3 eI3
    exact ev_vret rfl dModel_fails_18 H
  · have H := H.2 c1
    exact ev_vret rfl dModel_fails_7 H
def fModel_fault_0 (D : va_G) (cA : FieldType → ClassId) (b : Nat) (E : State → Prop) (o : Nat) (n : Nat) (sh : Nat → qC) (Rf : Nat → Nat → Option Nat) (I : Nat → Nat → Int32) (L : Nat → Nat → Int64) (post : Option Value → qS → Prop) (x1 : Int32) : Prop :=
  ((¬ x1 = 0 → ((¬ x1 = 1 → post (some (.int ((-1)))) (n, sh, Rf, I, L)) ∧ (x1 = 1 → post (some (.int ((I o 5)))) (n, sh, Rf, I, L)))) ∧ (x1 = 0 → post (some (.int ((I o 4)))) (n, sh, Rf, I, L)))
set_option maxHeartbeats 4000000 in
set_option maxRecDepth 20000 in
theorem sModel_fault_0 {D : va_G} {cA : FieldType → ClassId} {b : Nat} {E : State → Prop} (o : Nat) (n : Nat) (sh : Nat → qC) (Rf : Nat → Nat → Option Nat) (I : Nat → Nat → Int32) (L : Nat → Nat → Int64) (post : Option Value → qS → Prop) (x1 : Int32) (hok : q_ok (qGG D cA b E)) (hw : WfModel (qGG D cA b E) n sh Rf o) (H : fModel_fault_0 D cA b E o n sh Rf I L post x1) : Ev (qGG D cA b E) mModel_fault 0 (0, 0) 0 [(0, .ref o), (1, .int x1)] [] (n, sh, Rf, I, L) post := by
  unfold fModel_fault_0 at H
  refine ev_iload_n dModel_fault_0 rfl ?_
  refine ev_if_ne 11 dModel_fault_1 (by decide) (fun c1 => ?_) (fun c1 => ?_)
  · have H := H.1 c1
    refine ev_iload_n dModel_fault_11 rfl ?_
    refine ev_iconst (1) dModel_fault_12 (by decide) ?_
    refine ev_icmp_ne 23 dModel_fault_13 (by decide) (fun c2 => ?_) (fun c2 => ?_)
    · have H := H.1 c2
      refine ev_iconst (-1) dModel_fault_23 (by decide) ?_
      exact ev_iret rfl dModel_fault_24 H
    · have H := H.2 c2
      refine ev_aload_n dModel_fault_16 rfl ?_
      refine ev_getI hok fk_Model_14 (woModel hw) (fun _ _ _ => rfl) dModel_fault_17 ?_
      refine ev_goto 24 dModel_fault_20 (by decide) ?_
      exact ev_iret rfl dModel_fault_24 H
  · have H := H.2 c1
    refine ev_aload_n dModel_fault_4 rfl ?_
    refine ev_getI hok fk_Model_11 (woModel hw) (fun _ _ _ => rfl) dModel_fault_5 ?_
    refine ev_goto 24 dModel_fault_8 (by decide) ?_
    exact ev_iret rfl dModel_fault_24 H
def fModel_feed_71 (D : va_G) (cA : FieldType → ClassId) (b : Nat) (E : State → Prop) (o : Nat) (n : Nat) (sh : Nat → qC) (Rf : Nat → Nat → Option Nat) (I : Nat → Nat → Int32) (L : Nat → Nat → Int64) (post : Option Value → qS → Prop) (x1 : Int32) (x2 : Int32) (x3 : Int32) (x4 : Int32) (x5 : Int32) (x6 : Int32) (z0 : Int32) : Prop :=
  vp_in ((I o 2) + x6) 1620 ∧ ∀ I1 : Nat → Nat → Int32, q_u I (o + 1) (((I o 2) + x6) : Int32).toNatClampNeg (vp_nar .byte (((z0 >>> ((24 - (8 * (x6 &&& 3))) &&& 31)) : Int32).toInt8.toInt32)) = I1 → Ev (qGG D cA b E) mModel_feed 0 (0, 0) 18 [(0, .ref o), (1, .int x1), (2, .int x2), (3, .int x3), (4, .int x4), (5, .int x5), (6, .int ((x6 + Int32.ofInt 1)))] [] (n, sh, Rf, I1, L) post
set_option maxHeartbeats 4000000 in
set_option maxRecDepth 20000 in
theorem sModel_feed_71 {D : va_G} {cA : FieldType → ClassId} {b : Nat} {E : State → Prop} (o : Nat) (n : Nat) (sh : Nat → qC) (Rf : Nat → Nat → Option Nat) (I : Nat → Nat → Int32) (L : Nat → Nat → Int64) (post : Option Value → qS → Prop) (x1 : Int32) (x2 : Int32) (x3 : Int32) (x4 : Int32) (x5 : Int32) (x6 : Int32) (z0 : Int32) (hok : q_ok (qGG D cA b E)) (hw : WfModel (qGG D cA b E) n sh Rf o) (H : fModel_feed_71 D cA b E o n sh Rf I L post x1 x2 x3 x4 x5 x6 z0) : Ev (qGG D cA b E) mModel_feed 0 (0, 0) 71 [(0, .ref o), (1, .int x1), (2, .int x2), (3, .int x3), (4, .int x4), (5, .int x5), (6, .int x6)] [.int z0] (n, sh, Rf, I, L) post := by
  unfold fModel_feed_71 at H
  refine ev_istore dModel_feed_71 (by decide) ?_
  refine ev_aload_n dModel_feed_73 rfl ?_
  refine ev_getR hok fk_Model_140 (woModel hw) (fun _ _ _ => rfl) (wrModel_0 hw) dModel_feed_74 ?_
  refine ev_aload_n dModel_feed_77 rfl ?_
  refine ev_getI hok fk_Model_137 (woModel hw) (fun _ _ _ => rfl) dModel_feed_78 ?_
  refine ev_iload dModel_feed_81 rfl ?_
  refine ev_iadd dModel_feed_83 ?_
  refine ev_iload dModel_feed_84 rfl ?_
  refine ev_bipush (24) dModel_feed_86 (by decide) ?_
  refine ev_bipush (8) dModel_feed_88 (by decide) ?_
  refine ev_iload dModel_feed_90 rfl ?_
  refine ev_iconst (3) dModel_feed_92 (by decide) ?_
  refine ev_iand dModel_feed_93 ?_
  refine ev_imul dModel_feed_94 ?_
  refine ev_isub dModel_feed_95 ?_
  refine ev_ishr dModel_feed_96 ?_
  refine ev_i2b dModel_feed_97 ?_
  obtain ⟨h2, H⟩ := H
  refine ev_bast hok (waModel_0 hw) h2 dModel_feed_98 ?_
  generalize eI1 : q_u I (o + 1) (((I o 2) + x6) : Int32).toNatClampNeg (vp_nar .byte (((z0 >>> ((24 - (8 * (x6 &&& 3))) &&& 31)) : Int32).toInt8.toInt32)) = I1
  have H := H I1 eI1
  refine ev_iinc dModel_feed_99 rfl (by decide) ?_
  refine ev_goto 18 dModel_feed_102 (by decide) ?_
  exact ev_sub [(0, .ref o), (1, .int x1), (2, .int x2), (3, .int x3), (4, .int x4), (5, .int x5), (6, .int ((x6 + Int32.ofInt 1)))] rfl H
def fModel_feed_18 (D : va_G) (cA : FieldType → ClassId) (b : Nat) (E : State → Prop) (o : Nat) (n : Nat) (sh : Nat → qC) (Rf : Nat → Nat → Option Nat) (I : Nat → Nat → Int32) (L : Nat → Nat → Int64) (post : Option Value → qS → Prop) (x1 : Int32) (x2 : Int32) (x3 : Int32) (x4 : Int32) (x5 : Int32) (x6 : Int32) : Prop :=
  ((20 ≤ x6 → ∀ I2 : Nat → Nat → Int32, q_u I o 2 ((I o 2) + 20) = I2 → post (some (.int ((I2 o 2)))) (n, sh, Rf, I2, L)) ∧ (¬ 20 ≤ x6 → ((4 ≤ x6 → ((8 ≤ x6 → ((12 ≤ x6 → ((16 ≤ x6 → fModel_feed_71 D cA b E o n sh Rf I L post x1 x2 x3 x4 x5 x6 x5) ∧ (¬ 16 ≤ x6 → fModel_feed_71 D cA b E o n sh Rf I L post x1 x2 x3 x4 x5 x6 x4))) ∧ (¬ 12 ≤ x6 → fModel_feed_71 D cA b E o n sh Rf I L post x1 x2 x3 x4 x5 x6 x3))) ∧ (¬ 8 ≤ x6 → fModel_feed_71 D cA b E o n sh Rf I L post x1 x2 x3 x4 x5 x6 x2))) ∧ (¬ 4 ≤ x6 → fModel_feed_71 D cA b E o n sh Rf I L post x1 x2 x3 x4 x5 x6 x1))))
set_option maxHeartbeats 4000000 in
set_option maxRecDepth 20000 in
theorem sModel_feed_18 {D : va_G} {cA : FieldType → ClassId} {b : Nat} {E : State → Prop} (o : Nat) (n : Nat) (sh : Nat → qC) (Rf : Nat → Nat → Option Nat) (I : Nat → Nat → Int32) (L : Nat → Nat → Int64) (post : Option Value → qS → Prop) (x1 : Int32) (x2 : Int32) (x3 : Int32) (x4 : Int32) (x5 : Int32) (x6 : Int32) (hok : q_ok (qGG D cA b E)) (hw : WfModel (qGG D cA b E) n sh Rf o) (H : fModel_feed_18 D cA b E o n sh Rf I L post x1 x2 x3 x4 x5 x6) : Ev (qGG D cA b E) mModel_feed 0 (0, 0) 18 [(0, .ref o), (1, .int x1), (2, .int x2), (3, .int x3), (4, .int x4), (5, .int x5), (6, .int x6)] [] (n, sh, Rf, I, L) post := by
  unfold fModel_feed_18 at H
  refine ev_iload dModel_feed_18 rfl ?_
  refine ev_bipush (20) dModel_feed_20 (by decide) ?_
  refine ev_icmp_ge 105 dModel_feed_22 (by decide) (fun c1 => ?_) (fun c1 => ?_)
  · have H := H.1 c1
    refine ev_aload_n dModel_feed_105 rfl ?_
    refine ev_dup dModel_feed_106 rfl ?_
    refine ev_getI hok fk_Model_137 (woModel hw) (fun _ _ _ => rfl) dModel_feed_107 ?_
    refine ev_bipush (20) dModel_feed_110 (by decide) ?_
    refine ev_iadd dModel_feed_112 ?_
    refine ev_putI hok fk_Model_137 (woModel hw) (fun _ _ _ => rfl) rfl rfl dModel_feed_113 ?_
    generalize eI2 : q_u I o 2 ((I o 2) + 20) = I2
    have H := H I2 eI2
    refine ev_aload_n dModel_feed_116 rfl ?_
    refine ev_getI hok fk_Model_137 (woModel hw) (fun _ _ _ => rfl) dModel_feed_117 ?_
    exact ev_iret rfl dModel_feed_120 H
  · have H := H.2 c1
    refine ev_iload dModel_feed_25 rfl ?_
    refine ev_iconst (4) dModel_feed_27 (by decide) ?_
    refine ev_icmp_ge 35 dModel_feed_28 (by decide) (fun c3 => ?_) (fun c3 => ?_)
    · have H := H.1 c3
      refine ev_iload dModel_feed_35 rfl ?_
      refine ev_bipush (8) dModel_feed_37 (by decide) ?_
      refine ev_icmp_ge 46 dModel_feed_39 (by decide) (fun c4 => ?_) (fun c4 => ?_)
      · have H := H.1 c4
        refine ev_iload dModel_feed_46 rfl ?_
        refine ev_bipush (12) dModel_feed_48 (by decide) ?_
        refine ev_icmp_ge 57 dModel_feed_50 (by decide) (fun c5 => ?_) (fun c5 => ?_)
        · have H := H.1 c5
          refine ev_iload dModel_feed_57 rfl ?_
          refine ev_bipush (16) dModel_feed_59 (by decide) ?_
          refine ev_icmp_ge 69 dModel_feed_61 (by decide) (fun c6 => ?_) (fun c6 => ?_)
          · have H := H.1 c6
            refine ev_iload dModel_feed_69 rfl ?_
            exact ev_sub [(0, .ref o), (1, .int x1), (2, .int x2), (3, .int x3), (4, .int x4), (5, .int x5), (6, .int x6)] rfl (sModel_feed_71 o n sh Rf I L post x1 x2 x3 x4 x5 x6 x5 hok hw H)
          · have H := H.2 c6
            refine ev_iload dModel_feed_64 rfl ?_
            refine ev_goto 71 dModel_feed_66 (by decide) ?_
            exact ev_sub [(0, .ref o), (1, .int x1), (2, .int x2), (3, .int x3), (4, .int x4), (5, .int x5), (6, .int x6)] rfl (sModel_feed_71 o n sh Rf I L post x1 x2 x3 x4 x5 x6 x4 hok hw H)
        · have H := H.2 c5
          refine ev_iload_n dModel_feed_53 rfl ?_
          refine ev_goto 71 dModel_feed_54 (by decide) ?_
          exact ev_sub [(0, .ref o), (1, .int x1), (2, .int x2), (3, .int x3), (4, .int x4), (5, .int x5), (6, .int x6)] rfl (sModel_feed_71 o n sh Rf I L post x1 x2 x3 x4 x5 x6 x3 hok hw H)
      · have H := H.2 c4
        refine ev_iload_n dModel_feed_42 rfl ?_
        refine ev_goto 71 dModel_feed_43 (by decide) ?_
        exact ev_sub [(0, .ref o), (1, .int x1), (2, .int x2), (3, .int x3), (4, .int x4), (5, .int x5), (6, .int x6)] rfl (sModel_feed_71 o n sh Rf I L post x1 x2 x3 x4 x5 x6 x2 hok hw H)
    · have H := H.2 c3
      refine ev_iload_n dModel_feed_31 rfl ?_
      refine ev_goto 71 dModel_feed_32 (by decide) ?_
      exact ev_sub [(0, .ref o), (1, .int x1), (2, .int x2), (3, .int x3), (4, .int x4), (5, .int x5), (6, .int x6)] rfl (sModel_feed_71 o n sh Rf I L post x1 x2 x3 x4 x5 x6 x1 hok hw H)
def fModel_feed_0 (D : va_G) (cA : FieldType → ClassId) (b : Nat) (E : State → Prop) (o : Nat) (n : Nat) (sh : Nat → qC) (Rf : Nat → Nat → Option Nat) (I : Nat → Nat → Int32) (L : Nat → Nat → Int64) (post : Option Value → qS → Prop) (x1 : Int32) (x2 : Int32) (x3 : Int32) (x4 : Int32) (x5 : Int32) : Prop :=
  ((((I o 2) + 20) ≤ 1600 → Ev (qGG D cA b E) mModel_feed 0 (0, 0) 18 [(0, .ref o), (1, .int x1), (2, .int x2), (3, .int x3), (4, .int x4), (5, .int x5), (6, .int 0)] [] (n, sh, Rf, I, L) post) ∧ (¬ ((I o 2) + 20) ≤ 1600 → post (some (.int ((-1)))) (n, sh, Rf, I, L)))
set_option maxHeartbeats 4000000 in
set_option maxRecDepth 20000 in
theorem sModel_feed_0 {D : va_G} {cA : FieldType → ClassId} {b : Nat} {E : State → Prop} (o : Nat) (n : Nat) (sh : Nat → qC) (Rf : Nat → Nat → Option Nat) (I : Nat → Nat → Int32) (L : Nat → Nat → Int64) (post : Option Value → qS → Prop) (x1 : Int32) (x2 : Int32) (x3 : Int32) (x4 : Int32) (x5 : Int32) (hok : q_ok (qGG D cA b E)) (hw : WfModel (qGG D cA b E) n sh Rf o) (H : fModel_feed_0 D cA b E o n sh Rf I L post x1 x2 x3 x4 x5) : Ev (qGG D cA b E) mModel_feed 0 (0, 0) 0 [(0, .ref o), (1, .int x1), (2, .int x2), (3, .int x3), (4, .int x4), (5, .int x5)] [] (n, sh, Rf, I, L) post := by
  unfold fModel_feed_0 at H
  refine ev_aload_n dModel_feed_0 rfl ?_
  refine ev_getI hok fk_Model_137 (woModel hw) (fun _ _ _ => rfl) dModel_feed_1 ?_
  refine ev_bipush (20) dModel_feed_4 (by decide) ?_
  refine ev_iadd dModel_feed_6 ?_
  refine ev_sipush (1600) dModel_feed_7 (by decide) ?_
  refine ev_icmp_le 15 dModel_feed_10 (by decide) (fun c1 => ?_) (fun c1 => ?_)
  · have H := H.1 c1
    refine ev_iconst (0) dModel_feed_15 (by decide) ?_
    refine ev_istore dModel_feed_16 (by decide) ?_
    exact ev_sub [(0, .ref o), (1, .int x1), (2, .int x2), (3, .int x3), (4, .int x4), (5, .int x5), (6, .int 0)] rfl H
  · have H := H.2 c1
    refine ev_iconst (-1) dModel_feed_13 (by decide) ?_
    exact ev_iret rfl dModel_feed_14 H
def fModel_fortAt_0 (D : va_G) (cA : FieldType → ClassId) (b : Nat) (E : State → Prop) (o : Nat) (n : Nat) (sh : Nat → qC) (Rf : Nat → Nat → Option Nat) (I : Nat → Nat → Int32) (L : Nat → Nat → Int64) (post : Option Value → qS → Prop) (x1 : Int32) : Prop :=
  vp_in ((3 * (I o 34)) + x1) 6 ∧ post (some (.int ((I (o + 13) (((3 * (I o 34)) + x1) : Int32).toNatClampNeg)))) (n, sh, Rf, I, L)
set_option maxHeartbeats 4000000 in
set_option maxRecDepth 20000 in
theorem sModel_fortAt_0 {D : va_G} {cA : FieldType → ClassId} {b : Nat} {E : State → Prop} (o : Nat) (n : Nat) (sh : Nat → qC) (Rf : Nat → Nat → Option Nat) (I : Nat → Nat → Int32) (L : Nat → Nat → Int64) (post : Option Value → qS → Prop) (x1 : Int32) (hok : q_ok (qGG D cA b E)) (hw : WfModel (qGG D cA b E) n sh Rf o) (H : fModel_fortAt_0 D cA b E o n sh Rf I L post x1) : Ev (qGG D cA b E) mModel_fortAt 0 (0, 0) 0 [(0, .ref o), (1, .int x1)] [] (n, sh, Rf, I, L) post := by
  unfold fModel_fortAt_0 at H
  refine ev_aload_n dModel_fortAt_0 rfl ?_
  refine ev_getR hok fk_Model_233 (woModel hw) (fun _ _ _ => rfl) (wrModel_22 hw) dModel_fortAt_1 ?_
  refine ev_iconst (3) dModel_fortAt_4 (by decide) ?_
  refine ev_aload_n dModel_fortAt_5 rfl ?_
  refine ev_getI hok fk_Model_147 (woModel hw) (fun _ _ _ => rfl) dModel_fortAt_6 ?_
  refine ev_imul dModel_fortAt_9 ?_
  refine ev_iload_n dModel_fortAt_10 rfl ?_
  refine ev_iadd dModel_fortAt_11 ?_
  obtain ⟨h1, H⟩ := H
  refine ev_iald hok (waModel_22 hw) h1 dModel_fortAt_12 ?_
  exact ev_iret rfl dModel_fortAt_13 H
def fModel_forts_0 (D : va_G) (cA : FieldType → ClassId) (b : Nat) (E : State → Prop) (o : Nat) (n : Nat) (sh : Nat → qC) (Rf : Nat → Nat → Option Nat) (I : Nat → Nat → Int32) (L : Nat → Nat → Int64) (post : Option Value → qS → Prop)  : Prop :=
  vp_in (I o 34) 2 ∧ post (some (.int ((I (o + 7) ((I o 34) : Int32).toNatClampNeg)))) (n, sh, Rf, I, L)
set_option maxHeartbeats 4000000 in
set_option maxRecDepth 20000 in
theorem sModel_forts_0 {D : va_G} {cA : FieldType → ClassId} {b : Nat} {E : State → Prop} (o : Nat) (n : Nat) (sh : Nat → qC) (Rf : Nat → Nat → Option Nat) (I : Nat → Nat → Int32) (L : Nat → Nat → Int64) (post : Option Value → qS → Prop)  (hok : q_ok (qGG D cA b E)) (hw : WfModel (qGG D cA b E) n sh Rf o) (H : fModel_forts_0 D cA b E o n sh Rf I L post ) : Ev (qGG D cA b E) mModel_forts 0 (0, 0) 0 [(0, .ref o)] [] (n, sh, Rf, I, L) post := by
  unfold fModel_forts_0 at H
  refine ev_aload_n dModel_forts_0 rfl ?_
  refine ev_getR hok fk_Model_157 (woModel hw) (fun _ _ _ => rfl) (wrModel_16 hw) dModel_forts_1 ?_
  refine ev_aload_n dModel_forts_4 rfl ?_
  refine ev_getI hok fk_Model_147 (woModel hw) (fun _ _ _ => rfl) dModel_forts_5 ?_
  obtain ⟨h1, H⟩ := H
  refine ev_iald hok (waModel_16 hw) h1 dModel_forts_8 ?_
  exact ev_iret rfl dModel_forts_9 H
def fModel_isCompared_28 (D : va_G) (cA : FieldType → ClassId) (b : Nat) (E : State → Prop) (o : Nat) (n : Nat) (sh : Nat → qC) (Rf : Nat → Nat → Option Nat) (I : Nat → Nat → Int32) (L : Nat → Nat → Int64) (post : Option Value → qS → Prop) (x1 : Int32) : Prop :=
  Ev (qGG D cA b E) mModel_isCompared 0 (0, 0) 7 [(0, .ref o), (1, .int ((x1 + Int32.ofInt (-1))))] [] (n, sh, Rf, I, L) post
set_option maxHeartbeats 4000000 in
set_option maxRecDepth 20000 in
theorem sModel_isCompared_28 {D : va_G} {cA : FieldType → ClassId} {b : Nat} {E : State → Prop} (o : Nat) (n : Nat) (sh : Nat → qC) (Rf : Nat → Nat → Option Nat) (I : Nat → Nat → Int32) (L : Nat → Nat → Int64) (post : Option Value → qS → Prop) (x1 : Int32) (hok : q_ok (qGG D cA b E)) (hw : WfModel (qGG D cA b E) n sh Rf o) (H : fModel_isCompared_28 D cA b E o n sh Rf I L post x1) : Ev (qGG D cA b E) mModel_isCompared 0 (0, 0) 28 [(0, .ref o), (1, .int x1)] [] (n, sh, Rf, I, L) post := by
  unfold fModel_isCompared_28 at H
  refine ev_iinc dModel_isCompared_28 rfl (by decide) ?_
  refine ev_goto 7 dModel_isCompared_31 (by decide) ?_
  exact ev_sub [(0, .ref o), (1, .int ((x1 + Int32.ofInt (-1))))] rfl H
def fModel_isCompared_7 (D : va_G) (cA : FieldType → ClassId) (b : Nat) (E : State → Prop) (o : Nat) (n : Nat) (sh : Nat → qC) (Rf : Nat → Nat → Option Nat) (I : Nat → Nat → Int32) (L : Nat → Nat → Int64) (post : Option Value → qS → Prop) (x1 : Int32) : Prop :=
  vp_in x1 80 ∧ (((I (o + 32) (x1 : Int32).toNatClampNeg) = 5 → fModel_isCompared_28 D cA b E o n sh Rf I L post x1) ∧ (¬ (I (o + 32) (x1 : Int32).toNatClampNeg) = 5 → vp_in x1 80 ∧ ((¬ (I (o + 32) (x1 : Int32).toNatClampNeg) = 6 → vp_in x1 80 ∧ ((¬ (I (o + 32) (x1 : Int32).toNatClampNeg) = 4 → post (some (.int 0)) (n, sh, Rf, I, L)) ∧ ((I (o + 32) (x1 : Int32).toNatClampNeg) = 4 → post (some (.int 1)) (n, sh, Rf, I, L)))) ∧ ((I (o + 32) (x1 : Int32).toNatClampNeg) = 6 → fModel_isCompared_28 D cA b E o n sh Rf I L post x1))))
set_option maxHeartbeats 4000000 in
set_option maxRecDepth 20000 in
theorem sModel_isCompared_7 {D : va_G} {cA : FieldType → ClassId} {b : Nat} {E : State → Prop} (o : Nat) (n : Nat) (sh : Nat → qC) (Rf : Nat → Nat → Option Nat) (I : Nat → Nat → Int32) (L : Nat → Nat → Int64) (post : Option Value → qS → Prop) (x1 : Int32) (hok : q_ok (qGG D cA b E)) (hw : WfModel (qGG D cA b E) n sh Rf o) (H : fModel_isCompared_7 D cA b E o n sh Rf I L post x1) : Ev (qGG D cA b E) mModel_isCompared 0 (0, 0) 7 [(0, .ref o), (1, .int x1)] [] (n, sh, Rf, I, L) post := by
  unfold fModel_isCompared_7 at H
  refine ev_aload_n dModel_isCompared_7 rfl ?_
  refine ev_getR hok fk_Model_315 (woModel hw) (fun _ _ _ => rfl) (wrModel_43 hw) dModel_isCompared_8 ?_
  refine ev_iload_n dModel_isCompared_11 rfl ?_
  obtain ⟨h1, H⟩ := H
  refine ev_iald hok (waModel_43 hw) h1 dModel_isCompared_12 ?_
  refine ev_iconst (5) dModel_isCompared_13 (by decide) ?_
  refine ev_icmp_eq 28 dModel_isCompared_14 (by decide) (fun c2 => ?_) (fun c2 => ?_)
  · have H := H.1 c2
    exact ev_sub [(0, .ref o), (1, .int x1)] rfl (sModel_isCompared_28 o n sh Rf I L post x1 hok hw H)
  · have H := H.2 c2
    refine ev_aload_n dModel_isCompared_17 rfl ?_
    refine ev_getR hok fk_Model_315 (woModel hw) (fun _ _ _ => rfl) (wrModel_43 hw) dModel_isCompared_18 ?_
    refine ev_iload_n dModel_isCompared_21 rfl ?_
    obtain ⟨h3, H⟩ := H
    refine ev_iald hok (waModel_43 hw) h3 dModel_isCompared_22 ?_
    refine ev_bipush (6) dModel_isCompared_23 (by decide) ?_
    refine ev_icmp_ne 34 dModel_isCompared_25 (by decide) (fun c4 => ?_) (fun c4 => ?_)
    · have H := H.1 c4
      refine ev_aload_n dModel_isCompared_34 rfl ?_
      refine ev_getR hok fk_Model_315 (woModel hw) (fun _ _ _ => rfl) (wrModel_43 hw) dModel_isCompared_35 ?_
      refine ev_iload_n dModel_isCompared_38 rfl ?_
      obtain ⟨h5, H⟩ := H
      refine ev_iald hok (waModel_43 hw) h5 dModel_isCompared_39 ?_
      refine ev_iconst (4) dModel_isCompared_40 (by decide) ?_
      refine ev_icmp_ne 48 dModel_isCompared_41 (by decide) (fun c6 => ?_) (fun c6 => ?_)
      · have H := H.1 c6
        refine ev_iconst (0) dModel_isCompared_48 (by decide) ?_
        exact ev_zret rfl (by decide) dModel_isCompared_49 H
      · have H := H.2 c6
        refine ev_iconst (1) dModel_isCompared_44 (by decide) ?_
        refine ev_goto 49 dModel_isCompared_45 (by decide) ?_
        exact ev_zret rfl (by decide) dModel_isCompared_49 H
    · have H := H.2 c4
      exact ev_sub [(0, .ref o), (1, .int x1)] rfl (sModel_isCompared_28 o n sh Rf I L post x1 hok hw H)
def fModel_isCompared_0 (D : va_G) (cA : FieldType → ClassId) (b : Nat) (E : State → Prop) (o : Nat) (n : Nat) (sh : Nat → qC) (Rf : Nat → Nat → Option Nat) (I : Nat → Nat → Int32) (L : Nat → Nat → Int64) (post : Option Value → qS → Prop)  : Prop :=
  Ev (qGG D cA b E) mModel_isCompared 0 (0, 0) 7 [(0, .ref o), (1, .int (((I o 48) - 1)))] [] (n, sh, Rf, I, L) post
set_option maxHeartbeats 4000000 in
set_option maxRecDepth 20000 in
theorem sModel_isCompared_0 {D : va_G} {cA : FieldType → ClassId} {b : Nat} {E : State → Prop} (o : Nat) (n : Nat) (sh : Nat → qC) (Rf : Nat → Nat → Option Nat) (I : Nat → Nat → Int32) (L : Nat → Nat → Int64) (post : Option Value → qS → Prop)  (hok : q_ok (qGG D cA b E)) (hw : WfModel (qGG D cA b E) n sh Rf o) (H : fModel_isCompared_0 D cA b E o n sh Rf I L post ) : Ev (qGG D cA b E) mModel_isCompared 0 (0, 0) 0 [(0, .ref o)] [] (n, sh, Rf, I, L) post := by
  unfold fModel_isCompared_0 at H
  refine ev_aload_n dModel_isCompared_0 rfl ?_
  refine ev_getI hok fk_Model_318 (woModel hw) (fun _ _ _ => rfl) dModel_isCompared_1 ?_
  refine ev_iconst (1) dModel_isCompared_4 (by decide) ?_
  refine ev_isub dModel_isCompared_5 ?_
  refine ev_istore_n dModel_isCompared_6 (by decide) ?_
  exact ev_sub [(0, .ref o), (1, .int (((I o 48) - 1)))] rfl H
def fModel_isDead_0 (D : va_G) (cA : FieldType → ClassId) (b : Nat) (E : State → Prop) (o : Nat) (n : Nat) (sh : Nat → qC) (Rf : Nat → Nat → Option Nat) (I : Nat → Nat → Int32) (L : Nat → Nat → Int64) (post : Option Value → qS → Prop) (x1 : Int32) : Prop :=
  vp_in x1 6 ∧ (((I o 57) < (I (o + 49) (x1 : Int32).toNatClampNeg) → post (some (.int 0)) (n, sh, Rf, I, L)) ∧ (¬ (I o 57) < (I (o + 49) (x1 : Int32).toNatClampNeg) → post (some (.int 1)) (n, sh, Rf, I, L)))
set_option maxHeartbeats 4000000 in
set_option maxRecDepth 20000 in
theorem sModel_isDead_0 {D : va_G} {cA : FieldType → ClassId} {b : Nat} {E : State → Prop} (o : Nat) (n : Nat) (sh : Nat → qC) (Rf : Nat → Nat → Option Nat) (I : Nat → Nat → Int32) (L : Nat → Nat → Int64) (post : Option Value → qS → Prop) (x1 : Int32) (hok : q_ok (qGG D cA b E)) (hw : WfModel (qGG D cA b E) n sh Rf o) (H : fModel_isDead_0 D cA b E o n sh Rf I L post x1) : Ev (qGG D cA b E) mModel_isDead 0 (0, 0) 0 [(0, .ref o), (1, .int x1)] [] (n, sh, Rf, I, L) post := by
  unfold fModel_isDead_0 at H
  refine ev_aload_n dModel_isDead_0 rfl ?_
  refine ev_getR hok fk_Model_522 (woModel hw) (fun _ _ _ => rfl) (wrModel_82 hw) dModel_isDead_1 ?_
  refine ev_iload_n dModel_isDead_4 rfl ?_
  obtain ⟨h1, H⟩ := H
  refine ev_iald hok (waModel_82 hw) h1 dModel_isDead_5 ?_
  refine ev_aload_n dModel_isDead_6 rfl ?_
  refine ev_getI hok fk_Model_348 (woModel hw) (fun _ _ _ => rfl) dModel_isDead_7 ?_
  refine ev_icmp_gt 17 dModel_isDead_10 (by decide) (fun c2 => ?_) (fun c2 => ?_)
  · have H := H.1 c2
    refine ev_iconst (0) dModel_isDead_17 (by decide) ?_
    exact ev_zret rfl (by decide) dModel_isDead_18 H
  · have H := H.2 c2
    refine ev_iconst (1) dModel_isDead_13 (by decide) ?_
    refine ev_goto 18 dModel_isDead_14 (by decide) ?_
    exact ev_zret rfl (by decide) dModel_isDead_18 H
def fModel_isDigit_0 (D : va_G) (cA : FieldType → ClassId) (b : Nat) (E : State → Prop) (n : Nat) (sh : Nat → qC) (Rf : Nat → Nat → Option Nat) (I : Nat → Nat → Int32) (L : Nat → Nat → Int64) (post : Option Value → qS → Prop) (x0 : Int32) : Prop :=
  ((x0 < 48 → post (some (.int 0)) (n, sh, Rf, I, L)) ∧ (¬ x0 < 48 → ((57 < x0 → post (some (.int 0)) (n, sh, Rf, I, L)) ∧ (¬ 57 < x0 → post (some (.int 1)) (n, sh, Rf, I, L)))))
set_option maxHeartbeats 4000000 in
set_option maxRecDepth 20000 in
theorem sModel_isDigit_0 {D : va_G} {cA : FieldType → ClassId} {b : Nat} {E : State → Prop} (n : Nat) (sh : Nat → qC) (Rf : Nat → Nat → Option Nat) (I : Nat → Nat → Int32) (L : Nat → Nat → Int64) (post : Option Value → qS → Prop) (x0 : Int32) (hok : q_ok (qGG D cA b E)) (H : fModel_isDigit_0 D cA b E n sh Rf I L post x0) : Ev (qGG D cA b E) mModel_isDigit 0 (0, 0) 0 [(0, .int x0)] [] (n, sh, Rf, I, L) post := by
  unfold fModel_isDigit_0 at H
  refine ev_iload_n dModel_isDigit_0 rfl ?_
  refine ev_bipush (48) dModel_isDigit_1 (by decide) ?_
  refine ev_icmp_lt 16 dModel_isDigit_3 (by decide) (fun c1 => ?_) (fun c1 => ?_)
  · have H := H.1 c1
    refine ev_iconst (0) dModel_isDigit_16 (by decide) ?_
    exact ev_zret rfl (by decide) dModel_isDigit_17 H
  · have H := H.2 c1
    refine ev_iload_n dModel_isDigit_6 rfl ?_
    refine ev_bipush (57) dModel_isDigit_7 (by decide) ?_
    refine ev_icmp_gt 16 dModel_isDigit_9 (by decide) (fun c2 => ?_) (fun c2 => ?_)
    · have H := H.1 c2
      refine ev_iconst (0) dModel_isDigit_16 (by decide) ?_
      exact ev_zret rfl (by decide) dModel_isDigit_17 H
    · have H := H.2 c2
      refine ev_iconst (1) dModel_isDigit_12 (by decide) ?_
      refine ev_goto 17 dModel_isDigit_13 (by decide) ?_
      exact ev_zret rfl (by decide) dModel_isDigit_17 H
def fModel_isGood_0 (D : va_G) (cA : FieldType → ClassId) (b : Nat) (E : State → Prop) (o : Nat) (n : Nat) (sh : Nat → qC) (Rf : Nat → Nat → Option Nat) (I : Nat → Nat → Int32) (L : Nat → Nat → Int64) (post : Option Value → qS → Prop)  : Prop :=
  ((¬ (I o 4) = 0 → post (some (.int 0)) (n, sh, Rf, I, L)) ∧ ((I o 4) = 0 → post (some (.int 1)) (n, sh, Rf, I, L)))
set_option maxHeartbeats 4000000 in
set_option maxRecDepth 20000 in
theorem sModel_isGood_0 {D : va_G} {cA : FieldType → ClassId} {b : Nat} {E : State → Prop} (o : Nat) (n : Nat) (sh : Nat → qC) (Rf : Nat → Nat → Option Nat) (I : Nat → Nat → Int32) (L : Nat → Nat → Int64) (post : Option Value → qS → Prop)  (hok : q_ok (qGG D cA b E)) (hw : WfModel (qGG D cA b E) n sh Rf o) (H : fModel_isGood_0 D cA b E o n sh Rf I L post ) : Ev (qGG D cA b E) mModel_isGood 0 (0, 0) 0 [(0, .ref o)] [] (n, sh, Rf, I, L) post := by
  unfold fModel_isGood_0 at H
  refine ev_aload_n dModel_isGood_0 rfl ?_
  refine ev_getI hok fk_Model_11 (woModel hw) (fun _ _ _ => rfl) dModel_isGood_1 ?_
  refine ev_if_ne 11 dModel_isGood_4 (by decide) (fun c1 => ?_) (fun c1 => ?_)
  · have H := H.1 c1
    refine ev_iconst (0) dModel_isGood_11 (by decide) ?_
    exact ev_zret rfl (by decide) dModel_isGood_12 H
  · have H := H.2 c1
    refine ev_iconst (1) dModel_isGood_7 (by decide) ?_
    refine ev_goto 12 dModel_isGood_8 (by decide) ?_
    exact ev_zret rfl (by decide) dModel_isGood_12 H
def fModel_isIn_0 (D : va_G) (cA : FieldType → ClassId) (b : Nat) (E : State → Prop) (n : Nat) (sh : Nat → qC) (Rf : Nat → Nat → Option Nat) (I : Nat → Nat → Int32) (L : Nat → Nat → Int64) (post : Option Value → qS → Prop) (x0 : Int32) (x1 : Int32) (x2 : Int32) : Prop :=
  ((x0 < x1 → post (some (.int 0)) (n, sh, Rf, I, L)) ∧ (¬ x0 < x1 → ((x2 < x0 → post (some (.int 0)) (n, sh, Rf, I, L)) ∧ (¬ x2 < x0 → post (some (.int 1)) (n, sh, Rf, I, L)))))
set_option maxHeartbeats 4000000 in
set_option maxRecDepth 20000 in
theorem sModel_isIn_0 {D : va_G} {cA : FieldType → ClassId} {b : Nat} {E : State → Prop} (n : Nat) (sh : Nat → qC) (Rf : Nat → Nat → Option Nat) (I : Nat → Nat → Int32) (L : Nat → Nat → Int64) (post : Option Value → qS → Prop) (x0 : Int32) (x1 : Int32) (x2 : Int32) (hok : q_ok (qGG D cA b E)) (H : fModel_isIn_0 D cA b E n sh Rf I L post x0 x1 x2) : Ev (qGG D cA b E) mModel_isIn 0 (0, 0) 0 [(0, .int x0), (1, .int x1), (2, .int x2)] [] (n, sh, Rf, I, L) post := by
  unfold fModel_isIn_0 at H
  refine ev_iload_n dModel_isIn_0 rfl ?_
  refine ev_iload_n dModel_isIn_1 rfl ?_
  refine ev_icmp_lt 14 dModel_isIn_2 (by decide) (fun c1 => ?_) (fun c1 => ?_)
  · have H := H.1 c1
    refine ev_iconst (0) dModel_isIn_14 (by decide) ?_
    exact ev_zret rfl (by decide) dModel_isIn_15 H
  · have H := H.2 c1
    refine ev_iload_n dModel_isIn_5 rfl ?_
    refine ev_iload_n dModel_isIn_6 rfl ?_
    refine ev_icmp_gt 14 dModel_isIn_7 (by decide) (fun c2 => ?_) (fun c2 => ?_)
    · have H := H.1 c2
      refine ev_iconst (0) dModel_isIn_14 (by decide) ?_
      exact ev_zret rfl (by decide) dModel_isIn_15 H
    · have H := H.2 c2
      refine ev_iconst (1) dModel_isIn_10 (by decide) ?_
      refine ev_goto 15 dModel_isIn_11 (by decide) ?_
      exact ev_zret rfl (by decide) dModel_isIn_15 H
def fModel_isKept_266 (D : va_G) (cA : FieldType → ClassId) (b : Nat) (E : State → Prop) (n : Nat) (sh : Nat → qC) (Rf : Nat → Nat → Option Nat) (I : Nat → Nat → Int32) (L : Nat → Nat → Int64) (post : Option Value → qS → Prop) (x0 : Int64) (x2 : Int32) : Prop :=
  post (some (.int 1)) (n, sh, Rf, I, L)
set_option maxHeartbeats 4000000 in
set_option maxRecDepth 20000 in
theorem sModel_isKept_266 {D : va_G} {cA : FieldType → ClassId} {b : Nat} {E : State → Prop} (n : Nat) (sh : Nat → qC) (Rf : Nat → Nat → Option Nat) (I : Nat → Nat → Int32) (L : Nat → Nat → Int64) (post : Option Value → qS → Prop) (x0 : Int64) (x2 : Int32) (hok : q_ok (qGG D cA b E)) (H : fModel_isKept_266 D cA b E n sh Rf I L post x0 x2) : Ev (qGG D cA b E) mModel_isKept 0 (0, 0) 266 [(0, .long x0), (2, .int x2)] [] (n, sh, Rf, I, L) post := by
  unfold fModel_isKept_266 at H
  refine ev_iconst (1) dModel_isKept_266 (by decide) ?_
  refine ev_goto 271 dModel_isKept_267 (by decide) ?_
  exact ev_zret rfl (by decide) dModel_isKept_271 H
def fModel_isKept_133 (D : va_G) (cA : FieldType → ClassId) (b : Nat) (E : State → Prop) (n : Nat) (sh : Nat → qC) (Rf : Nat → Nat → Option Nat) (I : Nat → Nat → Int32) (L : Nat → Nat → Int64) (post : Option Value → qS → Prop) (x0 : Int64) (z0 : Int32) : Prop :=
  ((¬ z0 = 0 → fModel_isKept_266 D cA b E n sh Rf I L post x0 z0) ∧ (z0 = 0 → (((lg_cmp x0 1668245870) = 0 → fModel_isKept_266 D cA b E n sh Rf I L post x0 z0) ∧ (¬ (lg_cmp x0 1668245870) = 0 → (((lg_cmp x0 1836020596) = 0 → fModel_isKept_266 D cA b E n sh Rf I L post x0 z0) ∧ (¬ (lg_cmp x0 1836020596) = 0 → (((lg_cmp x0 7627128) = 0 → fModel_isKept_266 D cA b E n sh Rf I L post x0 z0) ∧ (¬ (lg_cmp x0 7627128) = 0 → (((lg_cmp x0 444350952036) = 0 → fModel_isKept_266 D cA b E n sh Rf I L post x0 z0) ∧ (¬ (lg_cmp x0 444350952036) = 0 → (((lg_cmp x0 6385252) = 0 → fModel_isKept_266 D cA b E n sh Rf I L post x0 z0) ∧ (¬ (lg_cmp x0 6385252) = 0 → (((lg_cmp x0 28530) = 0 → fModel_isKept_266 D cA b E n sh Rf I L post x0 z0) ∧ (¬ (lg_cmp x0 28530) = 0 → (((lg_cmp x0 7237492) = 0 → fModel_isKept_266 D cA b E n sh Rf I L post x0 z0) ∧ (¬ (lg_cmp x0 7237492) = 0 → (((lg_cmp x0 2036687218) = 0 → fModel_isKept_266 D cA b E n sh Rf I L post x0 z0) ∧ (¬ (lg_cmp x0 2036687218) = 0 → (((lg_cmp x0 470020945000) = 0 → fModel_isKept_266 D cA b E n sh Rf I L post x0 z0) ∧ (¬ (lg_cmp x0 470020945000) = 0 → (((lg_cmp x0 1852138852) = 0 → fModel_isKept_266 D cA b E n sh Rf I L post x0 z0) ∧ (¬ (lg_cmp x0 1852138852) = 0 → (((lg_cmp x0 1684109683) = 0 → fModel_isKept_266 D cA b E n sh Rf I L post x0 z0) ∧ (¬ (lg_cmp x0 1684109683) = 0 → (((lg_cmp x0 33602627781095015) = 0 → fModel_isKept_266 D cA b E n sh Rf I L post x0 z0) ∧ (¬ (lg_cmp x0 33602627781095015) = 0 → (((lg_cmp x0 6383461) = 0 → fModel_isKept_266 D cA b E n sh Rf I L post x0 z0) ∧ (¬ (lg_cmp x0 6383461) = 0 → (((lg_cmp x0 495555144563) = 0 → fModel_isKept_266 D cA b E n sh Rf I L post x0 z0) ∧ (¬ (lg_cmp x0 495555144563) = 0 → (((lg_cmp x0 108230850603124) = 0 → fModel_isKept_266 D cA b E n sh Rf I L post x0 z0) ∧ (¬ (lg_cmp x0 108230850603124) = 0 → ((¬ (lg_cmp x0 1835099237) = 0 → post (some (.int 0)) (n, sh, Rf, I, L)) ∧ ((lg_cmp x0 1835099237) = 0 → fModel_isKept_266 D cA b E n sh Rf I L post x0 z0))))))))))))))))))))))))))))))))))
set_option maxHeartbeats 4000000 in
set_option maxRecDepth 20000 in
theorem sModel_isKept_133 {D : va_G} {cA : FieldType → ClassId} {b : Nat} {E : State → Prop} (n : Nat) (sh : Nat → qC) (Rf : Nat → Nat → Option Nat) (I : Nat → Nat → Int32) (L : Nat → Nat → Int64) (post : Option Value → qS → Prop) (x0 : Int64) (z0 : Int32) (hok : q_ok (qGG D cA b E)) (H : fModel_isKept_133 D cA b E n sh Rf I L post x0 z0) : Ev (qGG D cA b E) mModel_isKept 0 (0, 0) 133 [(0, .long x0)] [.int z0] (n, sh, Rf, I, L) post := by
  unfold fModel_isKept_133 at H
  refine ev_istore_n dModel_isKept_133 (by decide) ?_
  refine ev_iload_n dModel_isKept_134 rfl ?_
  refine ev_if_ne 266 dModel_isKept_135 (by decide) (fun c1 => ?_) (fun c1 => ?_)
  · have H := H.1 c1
    exact ev_sub [(0, .long x0), (2, .int z0)] rfl (sModel_isKept_266 n sh Rf I L post x0 z0 hok H)
  · have H := H.2 c1
    refine ev_lload_n dModel_isKept_138 rfl ?_
    refine ev_ldc2 (1668245870) dModel_isKept_139 (q_t7 8 (by decide +kernel) rfl) ?_
    refine ev_lcmp dModel_isKept_142 ?_
    refine ev_if_eq 266 dModel_isKept_143 (by decide) (fun c2 => ?_) (fun c2 => ?_)
    · have H := H.1 c2
      exact ev_sub [(0, .long x0), (2, .int z0)] rfl (sModel_isKept_266 n sh Rf I L post x0 z0 hok H)
    · have H := H.2 c2
      refine ev_lload_n dModel_isKept_146 rfl ?_
      refine ev_ldc2 (1836020596) dModel_isKept_147 (q_t7 9 (by decide +kernel) rfl) ?_
      refine ev_lcmp dModel_isKept_150 ?_
      refine ev_if_eq 266 dModel_isKept_151 (by decide) (fun c3 => ?_) (fun c3 => ?_)
      · have H := H.1 c3
        exact ev_sub [(0, .long x0), (2, .int z0)] rfl (sModel_isKept_266 n sh Rf I L post x0 z0 hok H)
      · have H := H.2 c3
        refine ev_lload_n dModel_isKept_154 rfl ?_
        refine ev_ldc2 (7627128) dModel_isKept_155 (q_t7 10 (by decide +kernel) rfl) ?_
        refine ev_lcmp dModel_isKept_158 ?_
        refine ev_if_eq 266 dModel_isKept_159 (by decide) (fun c4 => ?_) (fun c4 => ?_)
        · have H := H.1 c4
          exact ev_sub [(0, .long x0), (2, .int z0)] rfl (sModel_isKept_266 n sh Rf I L post x0 z0 hok H)
        · have H := H.2 c4
          refine ev_lload_n dModel_isKept_162 rfl ?_
          refine ev_ldc2 (444350952036) dModel_isKept_163 (q_t7 11 (by decide +kernel) rfl) ?_
          refine ev_lcmp dModel_isKept_166 ?_
          refine ev_if_eq 266 dModel_isKept_167 (by decide) (fun c5 => ?_) (fun c5 => ?_)
          · have H := H.1 c5
            exact ev_sub [(0, .long x0), (2, .int z0)] rfl (sModel_isKept_266 n sh Rf I L post x0 z0 hok H)
          · have H := H.2 c5
            refine ev_lload_n dModel_isKept_170 rfl ?_
            refine ev_ldc2 (6385252) dModel_isKept_171 (q_t7 12 (by decide +kernel) rfl) ?_
            refine ev_lcmp dModel_isKept_174 ?_
            refine ev_if_eq 266 dModel_isKept_175 (by decide) (fun c6 => ?_) (fun c6 => ?_)
            · have H := H.1 c6
              exact ev_sub [(0, .long x0), (2, .int z0)] rfl (sModel_isKept_266 n sh Rf I L post x0 z0 hok H)
            · have H := H.2 c6
              refine ev_lload_n dModel_isKept_178 rfl ?_
              refine ev_ldc2 (28530) dModel_isKept_179 (q_t7 13 (by decide +kernel) rfl) ?_
              refine ev_lcmp dModel_isKept_182 ?_
              refine ev_if_eq 266 dModel_isKept_183 (by decide) (fun c7 => ?_) (fun c7 => ?_)
              · have H := H.1 c7
                exact ev_sub [(0, .long x0), (2, .int z0)] rfl (sModel_isKept_266 n sh Rf I L post x0 z0 hok H)
              · have H := H.2 c7
                refine ev_lload_n dModel_isKept_186 rfl ?_
                refine ev_ldc2 (7237492) dModel_isKept_187 (q_t7 14 (by decide +kernel) rfl) ?_
                refine ev_lcmp dModel_isKept_190 ?_
                refine ev_if_eq 266 dModel_isKept_191 (by decide) (fun c8 => ?_) (fun c8 => ?_)
                · have H := H.1 c8
                  exact ev_sub [(0, .long x0), (2, .int z0)] rfl (sModel_isKept_266 n sh Rf I L post x0 z0 hok H)
                · have H := H.2 c8
                  refine ev_lload_n dModel_isKept_194 rfl ?_
                  refine ev_ldc2 (2036687218) dModel_isKept_195 (q_t7 15 (by decide +kernel) rfl) ?_
                  refine ev_lcmp dModel_isKept_198 ?_
                  refine ev_if_eq 266 dModel_isKept_199 (by decide) (fun c9 => ?_) (fun c9 => ?_)
                  · have H := H.1 c9
                    exact ev_sub [(0, .long x0), (2, .int z0)] rfl (sModel_isKept_266 n sh Rf I L post x0 z0 hok H)
                  · have H := H.2 c9
                    refine ev_lload_n dModel_isKept_202 rfl ?_
                    refine ev_ldc2 (470020945000) dModel_isKept_203 (q_t7 16 (by decide +kernel) rfl) ?_
                    refine ev_lcmp dModel_isKept_206 ?_
                    refine ev_if_eq 266 dModel_isKept_207 (by decide) (fun c10 => ?_) (fun c10 => ?_)
                    · have H := H.1 c10
                      exact ev_sub [(0, .long x0), (2, .int z0)] rfl (sModel_isKept_266 n sh Rf I L post x0 z0 hok H)
                    · have H := H.2 c10
                      refine ev_lload_n dModel_isKept_210 rfl ?_
                      refine ev_ldc2 (1852138852) dModel_isKept_211 (q_t7 17 (by decide +kernel) rfl) ?_
                      refine ev_lcmp dModel_isKept_214 ?_
                      refine ev_if_eq 266 dModel_isKept_215 (by decide) (fun c11 => ?_) (fun c11 => ?_)
                      · have H := H.1 c11
                        exact ev_sub [(0, .long x0), (2, .int z0)] rfl (sModel_isKept_266 n sh Rf I L post x0 z0 hok H)
                      · have H := H.2 c11
                        refine ev_lload_n dModel_isKept_218 rfl ?_
                        refine ev_ldc2 (1684109683) dModel_isKept_219 (q_t7 18 (by decide +kernel) rfl) ?_
                        refine ev_lcmp dModel_isKept_222 ?_
                        refine ev_if_eq 266 dModel_isKept_223 (by decide) (fun c12 => ?_) (fun c12 => ?_)
                        · have H := H.1 c12
                          exact ev_sub [(0, .long x0), (2, .int z0)] rfl (sModel_isKept_266 n sh Rf I L post x0 z0 hok H)
                        · have H := H.2 c12
                          refine ev_lload_n dModel_isKept_226 rfl ?_
                          refine ev_ldc2 (33602627781095015) dModel_isKept_227 (q_t7 19 (by decide +kernel) rfl) ?_
                          refine ev_lcmp dModel_isKept_230 ?_
                          refine ev_if_eq 266 dModel_isKept_231 (by decide) (fun c13 => ?_) (fun c13 => ?_)
                          · have H := H.1 c13
                            exact ev_sub [(0, .long x0), (2, .int z0)] rfl (sModel_isKept_266 n sh Rf I L post x0 z0 hok H)
                          · have H := H.2 c13
                            refine ev_lload_n dModel_isKept_234 rfl ?_
                            refine ev_ldc2 (6383461) dModel_isKept_235 (q_t7 20 (by decide +kernel) rfl) ?_
                            refine ev_lcmp dModel_isKept_238 ?_
                            refine ev_if_eq 266 dModel_isKept_239 (by decide) (fun c14 => ?_) (fun c14 => ?_)
                            · have H := H.1 c14
                              exact ev_sub [(0, .long x0), (2, .int z0)] rfl (sModel_isKept_266 n sh Rf I L post x0 z0 hok H)
                            · have H := H.2 c14
                              refine ev_lload_n dModel_isKept_242 rfl ?_
                              refine ev_ldc2 (495555144563) dModel_isKept_243 (q_t7 21 (by decide +kernel) rfl) ?_
                              refine ev_lcmp dModel_isKept_246 ?_
                              refine ev_if_eq 266 dModel_isKept_247 (by decide) (fun c15 => ?_) (fun c15 => ?_)
                              · have H := H.1 c15
                                exact ev_sub [(0, .long x0), (2, .int z0)] rfl (sModel_isKept_266 n sh Rf I L post x0 z0 hok H)
                              · have H := H.2 c15
                                refine ev_lload_n dModel_isKept_250 rfl ?_
                                refine ev_ldc2 (108230850603124) dModel_isKept_251 (q_t7 22 (by decide +kernel) rfl) ?_
                                refine ev_lcmp dModel_isKept_254 ?_
                                refine ev_if_eq 266 dModel_isKept_255 (by decide) (fun c16 => ?_) (fun c16 => ?_)
                                · have H := H.1 c16
                                  exact ev_sub [(0, .long x0), (2, .int z0)] rfl (sModel_isKept_266 n sh Rf I L post x0 z0 hok H)
                                · have H := H.2 c16
                                  refine ev_lload_n dModel_isKept_258 rfl ?_
                                  refine ev_ldc2 (1835099237) dModel_isKept_259 (q_t7 23 (by decide +kernel) rfl) ?_
                                  refine ev_lcmp dModel_isKept_262 ?_
                                  refine ev_if_ne 270 dModel_isKept_263 (by decide) (fun c17 => ?_) (fun c17 => ?_)
                                  · have H := H.1 c17
                                    refine ev_iconst (0) dModel_isKept_270 (by decide) ?_
                                    exact ev_zret rfl (by decide) dModel_isKept_271 H
                                  · have H := H.2 c17
                                    exact ev_sub [(0, .long x0), (2, .int z0)] rfl (sModel_isKept_266 n sh Rf I L post x0 z0 hok H)
def fModel_isKept_128 (D : va_G) (cA : FieldType → ClassId) (b : Nat) (E : State → Prop) (n : Nat) (sh : Nat → qC) (Rf : Nat → Nat → Option Nat) (I : Nat → Nat → Int32) (L : Nat → Nat → Int64) (post : Option Value → qS → Prop) (x0 : Int64) : Prop :=
  fModel_isKept_133 D cA b E n sh Rf I L post x0 1
set_option maxHeartbeats 4000000 in
set_option maxRecDepth 20000 in
theorem sModel_isKept_128 {D : va_G} {cA : FieldType → ClassId} {b : Nat} {E : State → Prop} (n : Nat) (sh : Nat → qC) (Rf : Nat → Nat → Option Nat) (I : Nat → Nat → Int32) (L : Nat → Nat → Int64) (post : Option Value → qS → Prop) (x0 : Int64) (hok : q_ok (qGG D cA b E)) (H : fModel_isKept_128 D cA b E n sh Rf I L post x0) : Ev (qGG D cA b E) mModel_isKept 0 (0, 0) 128 [(0, .long x0)] [] (n, sh, Rf, I, L) post := by
  unfold fModel_isKept_128 at H
  refine ev_iconst (1) dModel_isKept_128 (by decide) ?_
  refine ev_goto 133 dModel_isKept_129 (by decide) ?_
  exact ev_sub [(0, .long x0)] rfl (sModel_isKept_133 n sh Rf I L post x0 1 hok H)
def fModel_isKept_0 (D : va_G) (cA : FieldType → ClassId) (b : Nat) (E : State → Prop) (n : Nat) (sh : Nat → qC) (Rf : Nat → Nat → Option Nat) (I : Nat → Nat → Int32) (L : Nat → Nat → Int64) (post : Option Value → qS → Prop) (x0 : Int64) : Prop :=
  (((lg_cmp x0 1919902052) = 0 → fModel_isKept_128 D cA b E n sh Rf I L post x0) ∧ (¬ (lg_cmp x0 1919902052) = 0 → (((lg_cmp x0 1718579828) = 0 → fModel_isKept_128 D cA b E n sh Rf I L post x0) ∧ (¬ (lg_cmp x0 1718579828) = 0 → (((lg_cmp x0 24948) = 0 → fModel_isKept_128 D cA b E n sh Rf I L post x0) ∧ (¬ (lg_cmp x0 24948) = 0 → (((lg_cmp x0 1700885619) = 0 → fModel_isKept_128 D cA b E n sh Rf I L post x0) ∧ (¬ (lg_cmp x0 1700885619) = 0 → (((lg_cmp x0 495874699877) = 0 → fModel_isKept_128 D cA b E n sh Rf I L post x0) ∧ (¬ (lg_cmp x0 495874699877) = 0 → (((lg_cmp x0 7364974) = 0 → fModel_isKept_128 D cA b E n sh Rf I L post x0) ∧ (¬ (lg_cmp x0 7364974) = 0 → (((lg_cmp x0 469785863539) = 0 → fModel_isKept_128 D cA b E n sh Rf I L post x0) ∧ (¬ (lg_cmp x0 469785863539) = 0 → (((lg_cmp x0 126879549252979) = 0 → fModel_isKept_128 D cA b E n sh Rf I L post x0) ∧ (¬ (lg_cmp x0 126879549252979) = 0 → (((lg_cmp x0 1953462126) = 0 → fModel_isKept_128 D cA b E n sh Rf I L post x0) ∧ (¬ (lg_cmp x0 1953462126) = 0 → (((lg_cmp x0 28518) = 0 → fModel_isKept_128 D cA b E n sh Rf I L post x0) ∧ (¬ (lg_cmp x0 28518) = 0 → (((lg_cmp x0 512735736947) = 0 → fModel_isKept_128 D cA b E n sh Rf I L post x0) ∧ (¬ (lg_cmp x0 512735736947) = 0 → (((lg_cmp x0 482955846501) = 0 → fModel_isKept_128 D cA b E n sh Rf I L post x0) ∧ (¬ (lg_cmp x0 482955846501) = 0 → (((lg_cmp x0 444300618094) = 0 → fModel_isKept_128 D cA b E n sh Rf I L post x0) ∧ (¬ (lg_cmp x0 444300618094) = 0 → (((lg_cmp x0 1668248436) = 0 → fModel_isKept_128 D cA b E n sh Rf I L post x0) ∧ (¬ (lg_cmp x0 1668248436) = 0 → (((lg_cmp x0 1918989413) = 0 → fModel_isKept_128 D cA b E n sh Rf I L post x0) ∧ (¬ (lg_cmp x0 1918989413) = 0 → ((¬ (lg_cmp x0 427020088179) = 0 → fModel_isKept_133 D cA b E n sh Rf I L post x0 0) ∧ ((lg_cmp x0 427020088179) = 0 → fModel_isKept_128 D cA b E n sh Rf I L post x0))))))))))))))))))))))))))))))))
set_option maxHeartbeats 4000000 in
set_option maxRecDepth 20000 in
theorem sModel_isKept_0 {D : va_G} {cA : FieldType → ClassId} {b : Nat} {E : State → Prop} (n : Nat) (sh : Nat → qC) (Rf : Nat → Nat → Option Nat) (I : Nat → Nat → Int32) (L : Nat → Nat → Int64) (post : Option Value → qS → Prop) (x0 : Int64) (hok : q_ok (qGG D cA b E)) (H : fModel_isKept_0 D cA b E n sh Rf I L post x0) : Ev (qGG D cA b E) mModel_isKept 0 (0, 0) 0 [(0, .long x0)] [] (n, sh, Rf, I, L) post := by
  unfold fModel_isKept_0 at H
  refine ev_lload_n dModel_isKept_0 rfl ?_
  refine ev_ldc2 (1919902052) dModel_isKept_1 (q_t6 232 (by decide +kernel) rfl) ?_
  refine ev_lcmp dModel_isKept_4 ?_
  refine ev_if_eq 128 dModel_isKept_5 (by decide) (fun c1 => ?_) (fun c1 => ?_)
  · have H := H.1 c1
    exact ev_sub [(0, .long x0)] rfl (sModel_isKept_128 n sh Rf I L post x0 hok H)
  · have H := H.2 c1
    refine ev_lload_n dModel_isKept_8 rfl ?_
    refine ev_ldc2 (1718579828) dModel_isKept_9 (q_t6 233 (by decide +kernel) rfl) ?_
    refine ev_lcmp dModel_isKept_12 ?_
    refine ev_if_eq 128 dModel_isKept_13 (by decide) (fun c2 => ?_) (fun c2 => ?_)
    · have H := H.1 c2
      exact ev_sub [(0, .long x0)] rfl (sModel_isKept_128 n sh Rf I L post x0 hok H)
    · have H := H.2 c2
      refine ev_lload_n dModel_isKept_16 rfl ?_
      refine ev_ldc2 (24948) dModel_isKept_17 (q_t6 234 (by decide +kernel) rfl) ?_
      refine ev_lcmp dModel_isKept_20 ?_
      refine ev_if_eq 128 dModel_isKept_21 (by decide) (fun c3 => ?_) (fun c3 => ?_)
      · have H := H.1 c3
        exact ev_sub [(0, .long x0)] rfl (sModel_isKept_128 n sh Rf I L post x0 hok H)
      · have H := H.2 c3
        refine ev_lload_n dModel_isKept_24 rfl ?_
        refine ev_ldc2 (1700885619) dModel_isKept_25 (q_t6 235 (by decide +kernel) rfl) ?_
        refine ev_lcmp dModel_isKept_28 ?_
        refine ev_if_eq 128 dModel_isKept_29 (by decide) (fun c4 => ?_) (fun c4 => ?_)
        · have H := H.1 c4
          exact ev_sub [(0, .long x0)] rfl (sModel_isKept_128 n sh Rf I L post x0 hok H)
        · have H := H.2 c4
          refine ev_lload_n dModel_isKept_32 rfl ?_
          refine ev_ldc2 (495874699877) dModel_isKept_33 (q_t6 236 (by decide +kernel) rfl) ?_
          refine ev_lcmp dModel_isKept_36 ?_
          refine ev_if_eq 128 dModel_isKept_37 (by decide) (fun c5 => ?_) (fun c5 => ?_)
          · have H := H.1 c5
            exact ev_sub [(0, .long x0)] rfl (sModel_isKept_128 n sh Rf I L post x0 hok H)
          · have H := H.2 c5
            refine ev_lload_n dModel_isKept_40 rfl ?_
            refine ev_ldc2 (7364974) dModel_isKept_41 (q_t6 237 (by decide +kernel) rfl) ?_
            refine ev_lcmp dModel_isKept_44 ?_
            refine ev_if_eq 128 dModel_isKept_45 (by decide) (fun c6 => ?_) (fun c6 => ?_)
            · have H := H.1 c6
              exact ev_sub [(0, .long x0)] rfl (sModel_isKept_128 n sh Rf I L post x0 hok H)
            · have H := H.2 c6
              refine ev_lload_n dModel_isKept_48 rfl ?_
              refine ev_ldc2 (469785863539) dModel_isKept_49 (q_t6 238 (by decide +kernel) rfl) ?_
              refine ev_lcmp dModel_isKept_52 ?_
              refine ev_if_eq 128 dModel_isKept_53 (by decide) (fun c7 => ?_) (fun c7 => ?_)
              · have H := H.1 c7
                exact ev_sub [(0, .long x0)] rfl (sModel_isKept_128 n sh Rf I L post x0 hok H)
              · have H := H.2 c7
                refine ev_lload_n dModel_isKept_56 rfl ?_
                refine ev_ldc2 (126879549252979) dModel_isKept_57 (q_t6 239 (by decide +kernel) rfl) ?_
                refine ev_lcmp dModel_isKept_60 ?_
                refine ev_if_eq 128 dModel_isKept_61 (by decide) (fun c8 => ?_) (fun c8 => ?_)
                · have H := H.1 c8
                  exact ev_sub [(0, .long x0)] rfl (sModel_isKept_128 n sh Rf I L post x0 hok H)
                · have H := H.2 c8
                  refine ev_lload_n dModel_isKept_64 rfl ?_
                  refine ev_ldc2 (1953462126) dModel_isKept_65 (q_t7 0 (by decide +kernel) rfl) ?_
                  refine ev_lcmp dModel_isKept_68 ?_
                  refine ev_if_eq 128 dModel_isKept_69 (by decide) (fun c9 => ?_) (fun c9 => ?_)
                  · have H := H.1 c9
                    exact ev_sub [(0, .long x0)] rfl (sModel_isKept_128 n sh Rf I L post x0 hok H)
                  · have H := H.2 c9
                    refine ev_lload_n dModel_isKept_72 rfl ?_
                    refine ev_ldc2 (28518) dModel_isKept_73 (q_t7 1 (by decide +kernel) rfl) ?_
                    refine ev_lcmp dModel_isKept_76 ?_
                    refine ev_if_eq 128 dModel_isKept_77 (by decide) (fun c10 => ?_) (fun c10 => ?_)
                    · have H := H.1 c10
                      exact ev_sub [(0, .long x0)] rfl (sModel_isKept_128 n sh Rf I L post x0 hok H)
                    · have H := H.2 c10
                      refine ev_lload_n dModel_isKept_80 rfl ?_
                      refine ev_ldc2 (512735736947) dModel_isKept_81 (q_t7 2 (by decide +kernel) rfl) ?_
                      refine ev_lcmp dModel_isKept_84 ?_
                      refine ev_if_eq 128 dModel_isKept_85 (by decide) (fun c11 => ?_) (fun c11 => ?_)
                      · have H := H.1 c11
                        exact ev_sub [(0, .long x0)] rfl (sModel_isKept_128 n sh Rf I L post x0 hok H)
                      · have H := H.2 c11
                        refine ev_lload_n dModel_isKept_88 rfl ?_
                        refine ev_ldc2 (482955846501) dModel_isKept_89 (q_t7 3 (by decide +kernel) rfl) ?_
                        refine ev_lcmp dModel_isKept_92 ?_
                        refine ev_if_eq 128 dModel_isKept_93 (by decide) (fun c12 => ?_) (fun c12 => ?_)
                        · have H := H.1 c12
                          exact ev_sub [(0, .long x0)] rfl (sModel_isKept_128 n sh Rf I L post x0 hok H)
                        · have H := H.2 c12
                          refine ev_lload_n dModel_isKept_96 rfl ?_
                          refine ev_ldc2 (444300618094) dModel_isKept_97 (q_t7 4 (by decide +kernel) rfl) ?_
                          refine ev_lcmp dModel_isKept_100 ?_
                          refine ev_if_eq 128 dModel_isKept_101 (by decide) (fun c13 => ?_) (fun c13 => ?_)
                          · have H := H.1 c13
                            exact ev_sub [(0, .long x0)] rfl (sModel_isKept_128 n sh Rf I L post x0 hok H)
                          · have H := H.2 c13
                            refine ev_lload_n dModel_isKept_104 rfl ?_
                            refine ev_ldc2 (1668248436) dModel_isKept_105 (q_t7 5 (by decide +kernel) rfl) ?_
                            refine ev_lcmp dModel_isKept_108 ?_
                            refine ev_if_eq 128 dModel_isKept_109 (by decide) (fun c14 => ?_) (fun c14 => ?_)
                            · have H := H.1 c14
                              exact ev_sub [(0, .long x0)] rfl (sModel_isKept_128 n sh Rf I L post x0 hok H)
                            · have H := H.2 c14
                              refine ev_lload_n dModel_isKept_112 rfl ?_
                              refine ev_ldc2 (1918989413) dModel_isKept_113 (q_t7 6 (by decide +kernel) rfl) ?_
                              refine ev_lcmp dModel_isKept_116 ?_
                              refine ev_if_eq 128 dModel_isKept_117 (by decide) (fun c15 => ?_) (fun c15 => ?_)
                              · have H := H.1 c15
                                exact ev_sub [(0, .long x0)] rfl (sModel_isKept_128 n sh Rf I L post x0 hok H)
                              · have H := H.2 c15
                                refine ev_lload_n dModel_isKept_120 rfl ?_
                                refine ev_ldc2 (427020088179) dModel_isKept_121 (q_t7 7 (by decide +kernel) rfl) ?_
                                refine ev_lcmp dModel_isKept_124 ?_
                                refine ev_if_ne 132 dModel_isKept_125 (by decide) (fun c16 => ?_) (fun c16 => ?_)
                                · have H := H.1 c16
                                  refine ev_iconst (0) dModel_isKept_132 (by decide) ?_
                                  exact ev_sub [(0, .long x0)] rfl (sModel_isKept_133 n sh Rf I L post x0 0 hok H)
                                · have H := H.2 c16
                                  exact ev_sub [(0, .long x0)] rfl (sModel_isKept_128 n sh Rf I L post x0 hok H)
def fModel_isLetter_0 (D : va_G) (cA : FieldType → ClassId) (b : Nat) (E : State → Prop) (n : Nat) (sh : Nat → qC) (Rf : Nat → Nat → Option Nat) (I : Nat → Nat → Int32) (L : Nat → Nat → Int64) (post : Option Value → qS → Prop) (x0 : Int32) : Prop :=
  ((x0 < 97 → post (some (.int 0)) (n, sh, Rf, I, L)) ∧ (¬ x0 < 97 → ((122 < x0 → post (some (.int 0)) (n, sh, Rf, I, L)) ∧ (¬ 122 < x0 → post (some (.int 1)) (n, sh, Rf, I, L)))))
set_option maxHeartbeats 4000000 in
set_option maxRecDepth 20000 in
theorem sModel_isLetter_0 {D : va_G} {cA : FieldType → ClassId} {b : Nat} {E : State → Prop} (n : Nat) (sh : Nat → qC) (Rf : Nat → Nat → Option Nat) (I : Nat → Nat → Int32) (L : Nat → Nat → Int64) (post : Option Value → qS → Prop) (x0 : Int32) (hok : q_ok (qGG D cA b E)) (H : fModel_isLetter_0 D cA b E n sh Rf I L post x0) : Ev (qGG D cA b E) mModel_isLetter 0 (0, 0) 0 [(0, .int x0)] [] (n, sh, Rf, I, L) post := by
  unfold fModel_isLetter_0 at H
  refine ev_iload_n dModel_isLetter_0 rfl ?_
  refine ev_bipush (97) dModel_isLetter_1 (by decide) ?_
  refine ev_icmp_lt 16 dModel_isLetter_3 (by decide) (fun c1 => ?_) (fun c1 => ?_)
  · have H := H.1 c1
    refine ev_iconst (0) dModel_isLetter_16 (by decide) ?_
    exact ev_zret rfl (by decide) dModel_isLetter_17 H
  · have H := H.2 c1
    refine ev_iload_n dModel_isLetter_6 rfl ?_
    refine ev_bipush (122) dModel_isLetter_7 (by decide) ?_
    refine ev_icmp_gt 16 dModel_isLetter_9 (by decide) (fun c2 => ?_) (fun c2 => ?_)
    · have H := H.1 c2
      refine ev_iconst (0) dModel_isLetter_16 (by decide) ?_
      exact ev_zret rfl (by decide) dModel_isLetter_17 H
    · have H := H.2 c2
      refine ev_iconst (1) dModel_isLetter_12 (by decide) ?_
      refine ev_goto 17 dModel_isLetter_13 (by decide) ?_
      exact ev_zret rfl (by decide) dModel_isLetter_17 H
def fModel_isPoint_0 (D : va_G) (cA : FieldType → ClassId) (b : Nat) (E : State → Prop) (n : Nat) (sh : Nat → qC) (Rf : Nat → Nat → Option Nat) (I : Nat → Nat → Int32) (L : Nat → Nat → Int64) (post : Option Value → qS → Prop) (x0 : Int32) : Prop :=
  ((x0 < 0 → post (some (.int 0)) (n, sh, Rf, I, L)) ∧ (¬ x0 < 0 → ((16 ≤ x0 → post (some (.int 0)) (n, sh, Rf, I, L)) ∧ (¬ 16 ≤ x0 → post (some (.int 1)) (n, sh, Rf, I, L)))))
set_option maxHeartbeats 4000000 in
set_option maxRecDepth 20000 in
theorem sModel_isPoint_0 {D : va_G} {cA : FieldType → ClassId} {b : Nat} {E : State → Prop} (n : Nat) (sh : Nat → qC) (Rf : Nat → Nat → Option Nat) (I : Nat → Nat → Int32) (L : Nat → Nat → Int64) (post : Option Value → qS → Prop) (x0 : Int32) (hok : q_ok (qGG D cA b E)) (H : fModel_isPoint_0 D cA b E n sh Rf I L post x0) : Ev (qGG D cA b E) mModel_isPoint 0 (0, 0) 0 [(0, .int x0)] [] (n, sh, Rf, I, L) post := by
  unfold fModel_isPoint_0 at H
  refine ev_iload_n dModel_isPoint_0 rfl ?_
  refine ev_if_lt 14 dModel_isPoint_1 (by decide) (fun c1 => ?_) (fun c1 => ?_)
  · have H := H.1 c1
    refine ev_iconst (0) dModel_isPoint_14 (by decide) ?_
    exact ev_zret rfl (by decide) dModel_isPoint_15 H
  · have H := H.2 c1
    refine ev_iload_n dModel_isPoint_4 rfl ?_
    refine ev_bipush (16) dModel_isPoint_5 (by decide) ?_
    refine ev_icmp_ge 14 dModel_isPoint_7 (by decide) (fun c2 => ?_) (fun c2 => ?_)
    · have H := H.1 c2
      refine ev_iconst (0) dModel_isPoint_14 (by decide) ?_
      exact ev_zret rfl (by decide) dModel_isPoint_15 H
    · have H := H.2 c2
      refine ev_iconst (1) dModel_isPoint_10 (by decide) ?_
      refine ev_goto 15 dModel_isPoint_11 (by decide) ?_
      exact ev_zret rfl (by decide) dModel_isPoint_15 H
def fModel_isRanMonth_0 (D : va_G) (cA : FieldType → ClassId) (b : Nat) (E : State → Prop) (o : Nat) (n : Nat) (sh : Nat → qC) (Rf : Nat → Nat → Option Nat) (I : Nat → Nat → Int32) (L : Nat → Nat → Int64) (post : Option Value → qS → Prop) (x1 : Int32) : Prop :=
  (((I o 135) = 0 → post (some (.int 0)) (n, sh, Rf, I, L)) ∧ (¬ (I o 135) = 0 → ((x1 < 0 → post (some (.int 0)) (n, sh, Rf, I, L)) ∧ (¬ x1 < 0 → (((I o 136) ≤ x1 → post (some (.int 0)) (n, sh, Rf, I, L)) ∧ (¬ (I o 136) ≤ x1 → post (some (.int 1)) (n, sh, Rf, I, L)))))))
set_option maxHeartbeats 4000000 in
set_option maxRecDepth 20000 in
theorem sModel_isRanMonth_0 {D : va_G} {cA : FieldType → ClassId} {b : Nat} {E : State → Prop} (o : Nat) (n : Nat) (sh : Nat → qC) (Rf : Nat → Nat → Option Nat) (I : Nat → Nat → Int32) (L : Nat → Nat → Int64) (post : Option Value → qS → Prop) (x1 : Int32) (hok : q_ok (qGG D cA b E)) (hw : WfModel (qGG D cA b E) n sh Rf o) (H : fModel_isRanMonth_0 D cA b E o n sh Rf I L post x1) : Ev (qGG D cA b E) mModel_isRanMonth 0 (0, 0) 0 [(0, .ref o), (1, .int x1)] [] (n, sh, Rf, I, L) post := by
  unfold fModel_isRanMonth_0 at H
  refine ev_aload_n dModel_isRanMonth_0 rfl ?_
  refine ev_getI hok fk_Model_172 (woModel hw) (fun _ _ _ => rfl) dModel_isRanMonth_1 ?_
  refine ev_if_eq 23 dModel_isRanMonth_4 (by decide) (fun c1 => ?_) (fun c1 => ?_)
  · have H := H.1 c1
    refine ev_iconst (0) dModel_isRanMonth_23 (by decide) ?_
    exact ev_zret rfl (by decide) dModel_isRanMonth_24 H
  · have H := H.2 c1
    refine ev_iload_n dModel_isRanMonth_7 rfl ?_
    refine ev_if_lt 23 dModel_isRanMonth_8 (by decide) (fun c2 => ?_) (fun c2 => ?_)
    · have H := H.1 c2
      refine ev_iconst (0) dModel_isRanMonth_23 (by decide) ?_
      exact ev_zret rfl (by decide) dModel_isRanMonth_24 H
    · have H := H.2 c2
      refine ev_iload_n dModel_isRanMonth_11 rfl ?_
      refine ev_aload_n dModel_isRanMonth_12 rfl ?_
      refine ev_getI hok fk_Model_766 (woModel hw) (fun _ _ _ => rfl) dModel_isRanMonth_13 ?_
      refine ev_icmp_ge 23 dModel_isRanMonth_16 (by decide) (fun c3 => ?_) (fun c3 => ?_)
      · have H := H.1 c3
        refine ev_iconst (0) dModel_isRanMonth_23 (by decide) ?_
        exact ev_zret rfl (by decide) dModel_isRanMonth_24 H
      · have H := H.2 c3
        refine ev_iconst (1) dModel_isRanMonth_19 (by decide) ?_
        refine ev_goto 24 dModel_isRanMonth_20 (by decide) ?_
        exact ev_zret rfl (by decide) dModel_isRanMonth_24 H
def fModel_isSign_60 (D : va_G) (cA : FieldType → ClassId) (b : Nat) (E : State → Prop) (n : Nat) (sh : Nat → qC) (Rf : Nat → Nat → Option Nat) (I : Nat → Nat → Int32) (L : Nat → Nat → Int64) (post : Option Value → qS → Prop) (x0 : Int32) : Prop :=
  post (some (.int 1)) (n, sh, Rf, I, L)
set_option maxHeartbeats 4000000 in
set_option maxRecDepth 20000 in
theorem sModel_isSign_60 {D : va_G} {cA : FieldType → ClassId} {b : Nat} {E : State → Prop} (n : Nat) (sh : Nat → qC) (Rf : Nat → Nat → Option Nat) (I : Nat → Nat → Int32) (L : Nat → Nat → Int64) (post : Option Value → qS → Prop) (x0 : Int32) (hok : q_ok (qGG D cA b E)) (H : fModel_isSign_60 D cA b E n sh Rf I L post x0) : Ev (qGG D cA b E) mModel_isSign 0 (0, 0) 60 [(0, .int x0)] [] (n, sh, Rf, I, L) post := by
  unfold fModel_isSign_60 at H
  refine ev_iconst (1) dModel_isSign_60 (by decide) ?_
  refine ev_goto 65 dModel_isSign_61 (by decide) ?_
  exact ev_zret rfl (by decide) dModel_isSign_65 H
def fModel_isSign_0 (D : va_G) (cA : FieldType → ClassId) (b : Nat) (E : State → Prop) (n : Nat) (sh : Nat → qC) (Rf : Nat → Nat → Option Nat) (I : Nat → Nat → Int32) (L : Nat → Nat → Int64) (post : Option Value → qS → Prop) (x0 : Int32) : Prop :=
  ((x0 = 59 → fModel_isSign_60 D cA b E n sh Rf I L post x0) ∧ (¬ x0 = 59 → ((x0 = 40 → fModel_isSign_60 D cA b E n sh Rf I L post x0) ∧ (¬ x0 = 40 → ((x0 = 41 → fModel_isSign_60 D cA b E n sh Rf I L post x0) ∧ (¬ x0 = 41 → ((x0 = 60 → fModel_isSign_60 D cA b E n sh Rf I L post x0) ∧ (¬ x0 = 60 → ((x0 = 62 → fModel_isSign_60 D cA b E n sh Rf I L post x0) ∧ (¬ x0 = 62 → ((x0 = 61 → fModel_isSign_60 D cA b E n sh Rf I L post x0) ∧ (¬ x0 = 61 → ((x0 = 43 → fModel_isSign_60 D cA b E n sh Rf I L post x0) ∧ (¬ x0 = 43 → ((x0 = 45 → fModel_isSign_60 D cA b E n sh Rf I L post x0) ∧ (¬ x0 = 45 → ((x0 = 42 → fModel_isSign_60 D cA b E n sh Rf I L post x0) ∧ (¬ x0 = 42 → ((¬ x0 = 47 → post (some (.int 0)) (n, sh, Rf, I, L)) ∧ (x0 = 47 → fModel_isSign_60 D cA b E n sh Rf I L post x0))))))))))))))))))))
set_option maxHeartbeats 4000000 in
set_option maxRecDepth 20000 in
theorem sModel_isSign_0 {D : va_G} {cA : FieldType → ClassId} {b : Nat} {E : State → Prop} (n : Nat) (sh : Nat → qC) (Rf : Nat → Nat → Option Nat) (I : Nat → Nat → Int32) (L : Nat → Nat → Int64) (post : Option Value → qS → Prop) (x0 : Int32) (hok : q_ok (qGG D cA b E)) (H : fModel_isSign_0 D cA b E n sh Rf I L post x0) : Ev (qGG D cA b E) mModel_isSign 0 (0, 0) 0 [(0, .int x0)] [] (n, sh, Rf, I, L) post := by
  unfold fModel_isSign_0 at H
  refine ev_iload_n dModel_isSign_0 rfl ?_
  refine ev_bipush (59) dModel_isSign_1 (by decide) ?_
  refine ev_icmp_eq 60 dModel_isSign_3 (by decide) (fun c1 => ?_) (fun c1 => ?_)
  · have H := H.1 c1
    exact ev_sub [(0, .int x0)] rfl (sModel_isSign_60 n sh Rf I L post x0 hok H)
  · have H := H.2 c1
    refine ev_iload_n dModel_isSign_6 rfl ?_
    refine ev_bipush (40) dModel_isSign_7 (by decide) ?_
    refine ev_icmp_eq 60 dModel_isSign_9 (by decide) (fun c2 => ?_) (fun c2 => ?_)
    · have H := H.1 c2
      exact ev_sub [(0, .int x0)] rfl (sModel_isSign_60 n sh Rf I L post x0 hok H)
    · have H := H.2 c2
      refine ev_iload_n dModel_isSign_12 rfl ?_
      refine ev_bipush (41) dModel_isSign_13 (by decide) ?_
      refine ev_icmp_eq 60 dModel_isSign_15 (by decide) (fun c3 => ?_) (fun c3 => ?_)
      · have H := H.1 c3
        exact ev_sub [(0, .int x0)] rfl (sModel_isSign_60 n sh Rf I L post x0 hok H)
      · have H := H.2 c3
        refine ev_iload_n dModel_isSign_18 rfl ?_
        refine ev_bipush (60) dModel_isSign_19 (by decide) ?_
        refine ev_icmp_eq 60 dModel_isSign_21 (by decide) (fun c4 => ?_) (fun c4 => ?_)
        · have H := H.1 c4
          exact ev_sub [(0, .int x0)] rfl (sModel_isSign_60 n sh Rf I L post x0 hok H)
        · have H := H.2 c4
          refine ev_iload_n dModel_isSign_24 rfl ?_
          refine ev_bipush (62) dModel_isSign_25 (by decide) ?_
          refine ev_icmp_eq 60 dModel_isSign_27 (by decide) (fun c5 => ?_) (fun c5 => ?_)
          · have H := H.1 c5
            exact ev_sub [(0, .int x0)] rfl (sModel_isSign_60 n sh Rf I L post x0 hok H)
          · have H := H.2 c5
            refine ev_iload_n dModel_isSign_30 rfl ?_
            refine ev_bipush (61) dModel_isSign_31 (by decide) ?_
            refine ev_icmp_eq 60 dModel_isSign_33 (by decide) (fun c6 => ?_) (fun c6 => ?_)
            · have H := H.1 c6
              exact ev_sub [(0, .int x0)] rfl (sModel_isSign_60 n sh Rf I L post x0 hok H)
            · have H := H.2 c6
              refine ev_iload_n dModel_isSign_36 rfl ?_
              refine ev_bipush (43) dModel_isSign_37 (by decide) ?_
              refine ev_icmp_eq 60 dModel_isSign_39 (by decide) (fun c7 => ?_) (fun c7 => ?_)
              · have H := H.1 c7
                exact ev_sub [(0, .int x0)] rfl (sModel_isSign_60 n sh Rf I L post x0 hok H)
              · have H := H.2 c7
                refine ev_iload_n dModel_isSign_42 rfl ?_
                refine ev_bipush (45) dModel_isSign_43 (by decide) ?_
                refine ev_icmp_eq 60 dModel_isSign_45 (by decide) (fun c8 => ?_) (fun c8 => ?_)
                · have H := H.1 c8
                  exact ev_sub [(0, .int x0)] rfl (sModel_isSign_60 n sh Rf I L post x0 hok H)
                · have H := H.2 c8
                  refine ev_iload_n dModel_isSign_48 rfl ?_
                  refine ev_bipush (42) dModel_isSign_49 (by decide) ?_
                  refine ev_icmp_eq 60 dModel_isSign_51 (by decide) (fun c9 => ?_) (fun c9 => ?_)
                  · have H := H.1 c9
                    exact ev_sub [(0, .int x0)] rfl (sModel_isSign_60 n sh Rf I L post x0 hok H)
                  · have H := H.2 c9
                    refine ev_iload_n dModel_isSign_54 rfl ?_
                    refine ev_bipush (47) dModel_isSign_55 (by decide) ?_
                    refine ev_icmp_ne 64 dModel_isSign_57 (by decide) (fun c10 => ?_) (fun c10 => ?_)
                    · have H := H.1 c10
                      refine ev_iconst (0) dModel_isSign_64 (by decide) ?_
                      exact ev_zret rfl (by decide) dModel_isSign_65 H
                    · have H := H.2 c10
                      exact ev_sub [(0, .int x0)] rfl (sModel_isSign_60 n sh Rf I L post x0 hok H)
def fModel_isTold_99 (D : va_G) (cA : FieldType → ClassId) (b : Nat) (E : State → Prop) (o : Nat) (n : Nat) (sh : Nat → qC) (Rf : Nat → Nat → Option Nat) (I : Nat → Nat → Int32) (L : Nat → Nat → Int64) (post : Option Value → qS → Prop) (x1 : Int64) (x3 : Int32) : Prop :=
  vp_in (I o 35) 2 ∧ ((((5 * (I o 35)) + (I (o + 9) ((I o 35) : Int32).toNatClampNeg)) ≤ x3 → post (some (.int 0)) (n, sh, Rf, I, L)) ∧ (¬ ((5 * (I o 35)) + (I (o + 9) ((I o 35) : Int32).toNatClampNeg)) ≤ x3 → vp_in x3 10 ∧ ((¬ (lg_cmp (L (o + 5) (x3 : Int32).toNatClampNeg) x1) = 0 → Ev (qGG D cA b E) mModel_isTold 0 (0, 0) 99 [(0, .ref o), (1, .long x1), (3, .int ((x3 + Int32.ofInt 1)))] [] (n, sh, Rf, I, L) post) ∧ ((lg_cmp (L (o + 5) (x3 : Int32).toNatClampNeg) x1) = 0 → post (some (.int 1)) (n, sh, Rf, I, L)))))
set_option maxHeartbeats 4000000 in
set_option maxRecDepth 20000 in
theorem sModel_isTold_99 {D : va_G} {cA : FieldType → ClassId} {b : Nat} {E : State → Prop} (o : Nat) (n : Nat) (sh : Nat → qC) (Rf : Nat → Nat → Option Nat) (I : Nat → Nat → Int32) (L : Nat → Nat → Int64) (post : Option Value → qS → Prop) (x1 : Int64) (x3 : Int32) (hok : q_ok (qGG D cA b E)) (hw : WfModel (qGG D cA b E) n sh Rf o) (H : fModel_isTold_99 D cA b E o n sh Rf I L post x1 x3) : Ev (qGG D cA b E) mModel_isTold 0 (0, 0) 99 [(0, .ref o), (1, .long x1), (3, .int x3)] [] (n, sh, Rf, I, L) post := by
  unfold fModel_isTold_99 at H
  refine ev_iload_n dModel_isTold_99 rfl ?_
  refine ev_iconst (5) dModel_isTold_100 (by decide) ?_
  refine ev_aload_n dModel_isTold_101 rfl ?_
  refine ev_getI hok fk_Model_150 (woModel hw) (fun _ _ _ => rfl) dModel_isTold_102 ?_
  refine ev_imul dModel_isTold_105 ?_
  refine ev_aload_n dModel_isTold_106 rfl ?_
  refine ev_getR hok fk_Model_163 (woModel hw) (fun _ _ _ => rfl) (wrModel_18 hw) dModel_isTold_107 ?_
  refine ev_aload_n dModel_isTold_110 rfl ?_
  refine ev_getI hok fk_Model_150 (woModel hw) (fun _ _ _ => rfl) dModel_isTold_111 ?_
  obtain ⟨h1, H⟩ := H
  refine ev_iald hok (waModel_18 hw) h1 dModel_isTold_114 ?_
  refine ev_iadd dModel_isTold_115 ?_
  refine ev_icmp_ge 138 dModel_isTold_116 (by decide) (fun c2 => ?_) (fun c2 => ?_)
  · have H := H.1 c2
    refine ev_iconst (0) dModel_isTold_138 (by decide) ?_
    exact ev_zret rfl (by decide) dModel_isTold_139 H
  · have H := H.2 c2
    refine ev_aload_n dModel_isTold_119 rfl ?_
    refine ev_getR hok fk_Model_223 (woModel hw) (fun _ _ _ => rfl) (wrModel_14 hw) dModel_isTold_120 ?_
    refine ev_iload_n dModel_isTold_123 rfl ?_
    obtain ⟨h3, H⟩ := H
    refine ev_lald hok (waModel_14 hw) h3 dModel_isTold_124 ?_
    refine ev_lload_n dModel_isTold_125 rfl ?_
    refine ev_lcmp dModel_isTold_126 ?_
    refine ev_if_ne 132 dModel_isTold_127 (by decide) (fun c4 => ?_) (fun c4 => ?_)
    · have H := H.1 c4
      refine ev_iinc dModel_isTold_132 rfl (by decide) ?_
      refine ev_goto 99 dModel_isTold_135 (by decide) ?_
      exact ev_sub [(0, .ref o), (1, .long x1), (3, .int ((x3 + Int32.ofInt 1)))] rfl H
    · have H := H.2 c4
      refine ev_iconst (1) dModel_isTold_130 (by decide) ?_
      exact ev_zret rfl (by decide) dModel_isTold_131 H
def fModel_isTold_53 (D : va_G) (cA : FieldType → ClassId) (b : Nat) (E : State → Prop) (o : Nat) (n : Nat) (sh : Nat → qC) (Rf : Nat → Nat → Option Nat) (I : Nat → Nat → Int32) (L : Nat → Nat → Int64) (post : Option Value → qS → Prop) (x1 : Int64) (x3 : Int32) : Prop :=
  vp_in (I o 35) 2 ∧ ((((3 * (I o 35)) + (I (o + 8) ((I o 35) : Int32).toNatClampNeg)) ≤ x3 → Ev (qGG D cA b E) mModel_isTold 0 (0, 0) 99 [(0, .ref o), (1, .long x1), (3, .int ((5 * (I o 35))))] [] (n, sh, Rf, I, L) post) ∧ (¬ ((3 * (I o 35)) + (I (o + 8) ((I o 35) : Int32).toNatClampNeg)) ≤ x3 → vp_in x3 6 ∧ ((¬ (lg_cmp (L (o + 4) (x3 : Int32).toNatClampNeg) x1) = 0 → Ev (qGG D cA b E) mModel_isTold 0 (0, 0) 53 [(0, .ref o), (1, .long x1), (3, .int ((x3 + Int32.ofInt 1)))] [] (n, sh, Rf, I, L) post) ∧ ((lg_cmp (L (o + 4) (x3 : Int32).toNatClampNeg) x1) = 0 → post (some (.int 1)) (n, sh, Rf, I, L)))))
set_option maxHeartbeats 4000000 in
set_option maxRecDepth 20000 in
theorem sModel_isTold_53 {D : va_G} {cA : FieldType → ClassId} {b : Nat} {E : State → Prop} (o : Nat) (n : Nat) (sh : Nat → qC) (Rf : Nat → Nat → Option Nat) (I : Nat → Nat → Int32) (L : Nat → Nat → Int64) (post : Option Value → qS → Prop) (x1 : Int64) (x3 : Int32) (hok : q_ok (qGG D cA b E)) (hw : WfModel (qGG D cA b E) n sh Rf o) (H : fModel_isTold_53 D cA b E o n sh Rf I L post x1 x3) : Ev (qGG D cA b E) mModel_isTold 0 (0, 0) 53 [(0, .ref o), (1, .long x1), (3, .int x3)] [] (n, sh, Rf, I, L) post := by
  unfold fModel_isTold_53 at H
  refine ev_iload_n dModel_isTold_53 rfl ?_
  refine ev_iconst (3) dModel_isTold_54 (by decide) ?_
  refine ev_aload_n dModel_isTold_55 rfl ?_
  refine ev_getI hok fk_Model_150 (woModel hw) (fun _ _ _ => rfl) dModel_isTold_56 ?_
  refine ev_imul dModel_isTold_59 ?_
  refine ev_aload_n dModel_isTold_60 rfl ?_
  refine ev_getR hok fk_Model_160 (woModel hw) (fun _ _ _ => rfl) (wrModel_17 hw) dModel_isTold_61 ?_
  refine ev_aload_n dModel_isTold_64 rfl ?_
  refine ev_getI hok fk_Model_150 (woModel hw) (fun _ _ _ => rfl) dModel_isTold_65 ?_
  obtain ⟨h1, H⟩ := H
  refine ev_iald hok (waModel_17 hw) h1 dModel_isTold_68 ?_
  refine ev_iadd dModel_isTold_69 ?_
  refine ev_icmp_ge 92 dModel_isTold_70 (by decide) (fun c2 => ?_) (fun c2 => ?_)
  · have H := H.1 c2
    refine ev_iconst (5) dModel_isTold_92 (by decide) ?_
    refine ev_aload_n dModel_isTold_93 rfl ?_
    refine ev_getI hok fk_Model_150 (woModel hw) (fun _ _ _ => rfl) dModel_isTold_94 ?_
    refine ev_imul dModel_isTold_97 ?_
    refine ev_istore_n dModel_isTold_98 (by decide) ?_
    exact ev_sub [(0, .ref o), (1, .long x1), (3, .int ((5 * (I o 35))))] rfl H
  · have H := H.2 c2
    refine ev_aload_n dModel_isTold_73 rfl ?_
    refine ev_getR hok fk_Model_220 (woModel hw) (fun _ _ _ => rfl) (wrModel_13 hw) dModel_isTold_74 ?_
    refine ev_iload_n dModel_isTold_77 rfl ?_
    obtain ⟨h3, H⟩ := H
    refine ev_lald hok (waModel_13 hw) h3 dModel_isTold_78 ?_
    refine ev_lload_n dModel_isTold_79 rfl ?_
    refine ev_lcmp dModel_isTold_80 ?_
    refine ev_if_ne 86 dModel_isTold_81 (by decide) (fun c4 => ?_) (fun c4 => ?_)
    · have H := H.1 c4
      refine ev_iinc dModel_isTold_86 rfl (by decide) ?_
      refine ev_goto 53 dModel_isTold_89 (by decide) ?_
      exact ev_sub [(0, .ref o), (1, .long x1), (3, .int ((x3 + Int32.ofInt 1)))] rfl H
    · have H := H.2 c4
      refine ev_iconst (1) dModel_isTold_84 (by decide) ?_
      exact ev_zret rfl (by decide) dModel_isTold_85 H
def fModel_isTold_7 (D : va_G) (cA : FieldType → ClassId) (b : Nat) (E : State → Prop) (o : Nat) (n : Nat) (sh : Nat → qC) (Rf : Nat → Nat → Option Nat) (I : Nat → Nat → Int32) (L : Nat → Nat → Int64) (post : Option Value → qS → Prop) (x1 : Int64) (x3 : Int32) : Prop :=
  vp_in (I o 35) 2 ∧ ((((3 * (I o 35)) + (I (o + 7) ((I o 35) : Int32).toNatClampNeg)) ≤ x3 → Ev (qGG D cA b E) mModel_isTold 0 (0, 0) 53 [(0, .ref o), (1, .long x1), (3, .int ((3 * (I o 35))))] [] (n, sh, Rf, I, L) post) ∧ (¬ ((3 * (I o 35)) + (I (o + 7) ((I o 35) : Int32).toNatClampNeg)) ≤ x3 → vp_in x3 6 ∧ ((¬ (lg_cmp (L (o + 3) (x3 : Int32).toNatClampNeg) x1) = 0 → Ev (qGG D cA b E) mModel_isTold 0 (0, 0) 7 [(0, .ref o), (1, .long x1), (3, .int ((x3 + Int32.ofInt 1)))] [] (n, sh, Rf, I, L) post) ∧ ((lg_cmp (L (o + 3) (x3 : Int32).toNatClampNeg) x1) = 0 → post (some (.int 1)) (n, sh, Rf, I, L)))))
set_option maxHeartbeats 4000000 in
set_option maxRecDepth 20000 in
theorem sModel_isTold_7 {D : va_G} {cA : FieldType → ClassId} {b : Nat} {E : State → Prop} (o : Nat) (n : Nat) (sh : Nat → qC) (Rf : Nat → Nat → Option Nat) (I : Nat → Nat → Int32) (L : Nat → Nat → Int64) (post : Option Value → qS → Prop) (x1 : Int64) (x3 : Int32) (hok : q_ok (qGG D cA b E)) (hw : WfModel (qGG D cA b E) n sh Rf o) (H : fModel_isTold_7 D cA b E o n sh Rf I L post x1 x3) : Ev (qGG D cA b E) mModel_isTold 0 (0, 0) 7 [(0, .ref o), (1, .long x1), (3, .int x3)] [] (n, sh, Rf, I, L) post := by
  unfold fModel_isTold_7 at H
  refine ev_iload_n dModel_isTold_7 rfl ?_
  refine ev_iconst (3) dModel_isTold_8 (by decide) ?_
  refine ev_aload_n dModel_isTold_9 rfl ?_
  refine ev_getI hok fk_Model_150 (woModel hw) (fun _ _ _ => rfl) dModel_isTold_10 ?_
  refine ev_imul dModel_isTold_13 ?_
  refine ev_aload_n dModel_isTold_14 rfl ?_
  refine ev_getR hok fk_Model_157 (woModel hw) (fun _ _ _ => rfl) (wrModel_16 hw) dModel_isTold_15 ?_
  refine ev_aload_n dModel_isTold_18 rfl ?_
  refine ev_getI hok fk_Model_150 (woModel hw) (fun _ _ _ => rfl) dModel_isTold_19 ?_
  obtain ⟨h1, H⟩ := H
  refine ev_iald hok (waModel_16 hw) h1 dModel_isTold_22 ?_
  refine ev_iadd dModel_isTold_23 ?_
  refine ev_icmp_ge 46 dModel_isTold_24 (by decide) (fun c2 => ?_) (fun c2 => ?_)
  · have H := H.1 c2
    refine ev_iconst (3) dModel_isTold_46 (by decide) ?_
    refine ev_aload_n dModel_isTold_47 rfl ?_
    refine ev_getI hok fk_Model_150 (woModel hw) (fun _ _ _ => rfl) dModel_isTold_48 ?_
    refine ev_imul dModel_isTold_51 ?_
    refine ev_istore_n dModel_isTold_52 (by decide) ?_
    exact ev_sub [(0, .ref o), (1, .long x1), (3, .int ((3 * (I o 35))))] rfl H
  · have H := H.2 c2
    refine ev_aload_n dModel_isTold_27 rfl ?_
    refine ev_getR hok fk_Model_216 (woModel hw) (fun _ _ _ => rfl) (wrModel_12 hw) dModel_isTold_28 ?_
    refine ev_iload_n dModel_isTold_31 rfl ?_
    obtain ⟨h3, H⟩ := H
    refine ev_lald hok (waModel_12 hw) h3 dModel_isTold_32 ?_
    refine ev_lload_n dModel_isTold_33 rfl ?_
    refine ev_lcmp dModel_isTold_34 ?_
    refine ev_if_ne 40 dModel_isTold_35 (by decide) (fun c4 => ?_) (fun c4 => ?_)
    · have H := H.1 c4
      refine ev_iinc dModel_isTold_40 rfl (by decide) ?_
      refine ev_goto 7 dModel_isTold_43 (by decide) ?_
      exact ev_sub [(0, .ref o), (1, .long x1), (3, .int ((x3 + Int32.ofInt 1)))] rfl H
    · have H := H.2 c4
      refine ev_iconst (1) dModel_isTold_38 (by decide) ?_
      exact ev_zret rfl (by decide) dModel_isTold_39 H
def fModel_isTold_0 (D : va_G) (cA : FieldType → ClassId) (b : Nat) (E : State → Prop) (o : Nat) (n : Nat) (sh : Nat → qC) (Rf : Nat → Nat → Option Nat) (I : Nat → Nat → Int32) (L : Nat → Nat → Int64) (post : Option Value → qS → Prop) (x1 : Int64) : Prop :=
  Ev (qGG D cA b E) mModel_isTold 0 (0, 0) 7 [(0, .ref o), (1, .long x1), (3, .int ((3 * (I o 35))))] [] (n, sh, Rf, I, L) post
set_option maxHeartbeats 4000000 in
set_option maxRecDepth 20000 in
theorem sModel_isTold_0 {D : va_G} {cA : FieldType → ClassId} {b : Nat} {E : State → Prop} (o : Nat) (n : Nat) (sh : Nat → qC) (Rf : Nat → Nat → Option Nat) (I : Nat → Nat → Int32) (L : Nat → Nat → Int64) (post : Option Value → qS → Prop) (x1 : Int64) (hok : q_ok (qGG D cA b E)) (hw : WfModel (qGG D cA b E) n sh Rf o) (H : fModel_isTold_0 D cA b E o n sh Rf I L post x1) : Ev (qGG D cA b E) mModel_isTold 0 (0, 0) 0 [(0, .ref o), (1, .long x1)] [] (n, sh, Rf, I, L) post := by
  unfold fModel_isTold_0 at H
  refine ev_iconst (3) dModel_isTold_0 (by decide) ?_
  refine ev_aload_n dModel_isTold_1 rfl ?_
  refine ev_getI hok fk_Model_150 (woModel hw) (fun _ _ _ => rfl) dModel_isTold_2 ?_
  refine ev_imul dModel_isTold_5 ?_
  refine ev_istore_n dModel_isTold_6 (by decide) ?_
  exact ev_sub [(0, .ref o), (1, .long x1), (3, .int ((3 * (I o 35))))] rfl H
def fModel_isWord_0 (D : va_G) (cA : FieldType → ClassId) (b : Nat) (E : State → Prop) (o : Nat) (n : Nat) (sh : Nat → qC) (Rf : Nat → Nat → Option Nat) (I : Nat → Nat → Int32) (L : Nat → Nat → Int64) (post : Option Value → qS → Prop) (x1 : Int64) : Prop :=
  ((¬ (I o 8) = 3 → post (some (.int 0)) (n, sh, Rf, I, L)) ∧ ((I o 8) = 3 → ((¬ (lg_cmp (L o 10) x1) = 0 → post (some (.int 0)) (n, sh, Rf, I, L)) ∧ ((lg_cmp (L o 10) x1) = 0 → post (some (.int 1)) (n, sh, Rf, I, L)))))
set_option maxHeartbeats 4000000 in
set_option maxRecDepth 20000 in
theorem sModel_isWord_0 {D : va_G} {cA : FieldType → ClassId} {b : Nat} {E : State → Prop} (o : Nat) (n : Nat) (sh : Nat → qC) (Rf : Nat → Nat → Option Nat) (I : Nat → Nat → Int32) (L : Nat → Nat → Int64) (post : Option Value → qS → Prop) (x1 : Int64) (hok : q_ok (qGG D cA b E)) (hw : WfModel (qGG D cA b E) n sh Rf o) (H : fModel_isWord_0 D cA b E o n sh Rf I L post x1) : Ev (qGG D cA b E) mModel_isWord 0 (0, 0) 0 [(0, .ref o), (1, .long x1)] [] (n, sh, Rf, I, L) post := by
  unfold fModel_isWord_0 at H
  refine ev_aload_n dModel_isWord_0 rfl ?_
  refine ev_getI hok fk_Model_98 (woModel hw) (fun _ _ _ => rfl) dModel_isWord_1 ?_
  refine ev_iconst (3) dModel_isWord_4 (by decide) ?_
  refine ev_icmp_ne 21 dModel_isWord_5 (by decide) (fun c1 => ?_) (fun c1 => ?_)
  · have H := H.1 c1
    refine ev_iconst (0) dModel_isWord_21 (by decide) ?_
    exact ev_zret rfl (by decide) dModel_isWord_22 H
  · have H := H.2 c1
    refine ev_aload_n dModel_isWord_8 rfl ?_
    refine ev_getL hok fk_Model_111 (woModel hw) (fun _ _ _ => rfl) dModel_isWord_9 ?_
    refine ev_lload_n dModel_isWord_12 rfl ?_
    refine ev_lcmp dModel_isWord_13 ?_
    refine ev_if_ne 21 dModel_isWord_14 (by decide) (fun c2 => ?_) (fun c2 => ?_)
    · have H := H.1 c2
      refine ev_iconst (0) dModel_isWord_21 (by decide) ?_
      exact ev_zret rfl (by decide) dModel_isWord_22 H
    · have H := H.2 c2
      refine ev_iconst (1) dModel_isWord_17 (by decide) ?_
      refine ev_goto 22 dModel_isWord_18 (by decide) ?_
      exact ev_zret rfl (by decide) dModel_isWord_22 H
def fModel_later_0 (D : va_G) (cA : FieldType → ClassId) (b : Nat) (E : State → Prop) (o : Nat) (n : Nat) (sh : Nat → qC) (Rf : Nat → Nat → Option Nat) (I : Nat → Nat → Int32) (L : Nat → Nat → Int64) (post : Option Value → qS → Prop) (x1 : Int32) : Prop :=
  ((x1 < 0 → post (some (.int ((-1)))) (n, sh, Rf, I, L)) ∧ (¬ x1 < 0 → ((1000 < x1 → post (some (.int ((-1)))) (n, sh, Rf, I, L)) ∧ (¬ 1000 < x1 → ((((I o 68) + x1) ≤ 100000 → ∀ I4 : Nat → Nat → Int32, q_u I o 68 ((I o 68) + x1) = I4 → post (some (.int ((I4 o 68)))) (n, sh, Rf, I4, L)) ∧ (¬ ((I o 68) + x1) ≤ 100000 → post (some (.int ((-1)))) (n, sh, Rf, I, L)))))))
set_option maxHeartbeats 4000000 in
set_option maxRecDepth 20000 in
theorem sModel_later_0 {D : va_G} {cA : FieldType → ClassId} {b : Nat} {E : State → Prop} (o : Nat) (n : Nat) (sh : Nat → qC) (Rf : Nat → Nat → Option Nat) (I : Nat → Nat → Int32) (L : Nat → Nat → Int64) (post : Option Value → qS → Prop) (x1 : Int32) (hok : q_ok (qGG D cA b E)) (hw : WfModel (qGG D cA b E) n sh Rf o) (H : fModel_later_0 D cA b E o n sh Rf I L post x1) : Ev (qGG D cA b E) mModel_later 0 (0, 0) 0 [(0, .ref o), (1, .int x1)] [] (n, sh, Rf, I, L) post := by
  unfold fModel_later_0 at H
  refine ev_iload_n dModel_later_0 rfl ?_
  refine ev_if_lt 23 dModel_later_1 (by decide) (fun c1 => ?_) (fun c1 => ?_)
  · have H := H.1 c1
    refine ev_iconst (-1) dModel_later_23 (by decide) ?_
    exact ev_iret rfl dModel_later_24 H
  · have H := H.2 c1
    refine ev_iload_n dModel_later_4 rfl ?_
    refine ev_sipush (1000) dModel_later_5 (by decide) ?_
    refine ev_icmp_gt 23 dModel_later_8 (by decide) (fun c2 => ?_) (fun c2 => ?_)
    · have H := H.1 c2
      refine ev_iconst (-1) dModel_later_23 (by decide) ?_
      exact ev_iret rfl dModel_later_24 H
    · have H := H.2 c2
      refine ev_aload_n dModel_later_11 rfl ?_
      refine ev_getI hok fk_Model_427 (woModel hw) (fun _ _ _ => rfl) dModel_later_12 ?_
      refine ev_iload_n dModel_later_15 rfl ?_
      refine ev_iadd dModel_later_16 ?_
      refine ev_ldcw (100000) dModel_later_17 (q_t7 189 (by decide +kernel) rfl) ?_
      refine ev_icmp_le 25 dModel_later_20 (by decide) (fun c3 => ?_) (fun c3 => ?_)
      · have H := H.1 c3
        refine ev_aload_n dModel_later_25 rfl ?_
        refine ev_dup dModel_later_26 rfl ?_
        refine ev_getI hok fk_Model_427 (woModel hw) (fun _ _ _ => rfl) dModel_later_27 ?_
        refine ev_iload_n dModel_later_30 rfl ?_
        refine ev_iadd dModel_later_31 ?_
        refine ev_putI hok fk_Model_427 (woModel hw) (fun _ _ _ => rfl) rfl rfl dModel_later_32 ?_
        generalize eI4 : q_u I o 68 ((I o 68) + x1) = I4
        have H := H I4 eI4
        refine ev_aload_n dModel_later_35 rfl ?_
        refine ev_getI hok fk_Model_427 (woModel hw) (fun _ _ _ => rfl) dModel_later_36 ?_
        exact ev_iret rfl dModel_later_39 H
      · have H := H.2 c3
        refine ev_iconst (-1) dModel_later_23 (by decide) ?_
        exact ev_iret rfl dModel_later_24 H
def fModel_lay_84 (D : va_G) (cA : FieldType → ClassId) (b : Nat) (E : State → Prop) (o : Nat) (n : Nat) (sh : Nat → qC) (Rf : Nat → Nat → Option Nat) (I : Nat → Nat → Int32) (L : Nat → Nat → Int64) (post : Option Value → qS → Prop) (x1 : Int32) (x2 : Int32) (x3 : Int32) : Prop :=
  ((700 ≤ x3 → post none (n, sh, Rf, I, L)) ∧ (¬ 700 ≤ x3 → vp_in ((700 * x1) + x3) 4200 ∧ vp_in ((700 * x2) + x3) 4200 ∧ ∀ I3 : Nat → Nat → Int32, q_u I (o + 30) (((700 * x2) + x3) : Int32).toNatClampNeg (I (o + 30) (((700 * x1) + x3) : Int32).toNatClampNeg) = I3 → vp_in ((700 * x1) + x3) 4200 ∧ vp_in ((700 * x2) + x3) 4200 ∧ ∀ I6 : Nat → Nat → Int32, q_u I3 (o + 31) (((700 * x2) + x3) : Int32).toNatClampNeg (I3 (o + 31) (((700 * x1) + x3) : Int32).toNatClampNeg) = I6 → Ev (qGG D cA b E) mModel_lay 0 (0, 0) 84 [(0, .ref o), (1, .int x1), (2, .int x2), (3, .int ((x3 + Int32.ofInt 1)))] [] (n, sh, Rf, I6, L) post))
set_option maxHeartbeats 4000000 in
set_option maxRecDepth 20000 in
theorem sModel_lay_84 {D : va_G} {cA : FieldType → ClassId} {b : Nat} {E : State → Prop} (o : Nat) (n : Nat) (sh : Nat → qC) (Rf : Nat → Nat → Option Nat) (I : Nat → Nat → Int32) (L : Nat → Nat → Int64) (post : Option Value → qS → Prop) (x1 : Int32) (x2 : Int32) (x3 : Int32) (hok : q_ok (qGG D cA b E)) (hw : WfModel (qGG D cA b E) n sh Rf o) (H : fModel_lay_84 D cA b E o n sh Rf I L post x1 x2 x3) : Ev (qGG D cA b E) mModel_lay 0 (0, 0) 84 [(0, .ref o), (1, .int x1), (2, .int x2), (3, .int x3)] [] (n, sh, Rf, I, L) post := by
  unfold fModel_lay_84 at H
  refine ev_iload_n dModel_lay_84 rfl ?_
  refine ev_sipush (700) dModel_lay_85 (by decide) ?_
  refine ev_icmp_ge 145 dModel_lay_88 (by decide) (fun c1 => ?_) (fun c1 => ?_)
  · have H := H.1 c1
    exact ev_vret rfl dModel_lay_145 H
  · have H := H.2 c1
    refine ev_aload_n dModel_lay_91 rfl ?_
    refine ev_getR hok fk_Model_303 (woModel hw) (fun _ _ _ => rfl) (wrModel_41 hw) dModel_lay_92 ?_
    refine ev_sipush (700) dModel_lay_95 (by decide) ?_
    refine ev_iload_n dModel_lay_98 rfl ?_
    refine ev_imul dModel_lay_99 ?_
    refine ev_iload_n dModel_lay_100 rfl ?_
    refine ev_iadd dModel_lay_101 ?_
    refine ev_aload_n dModel_lay_102 rfl ?_
    refine ev_getR hok fk_Model_303 (woModel hw) (fun _ _ _ => rfl) (wrModel_41 hw) dModel_lay_103 ?_
    refine ev_sipush (700) dModel_lay_106 (by decide) ?_
    refine ev_iload_n dModel_lay_109 rfl ?_
    refine ev_imul dModel_lay_110 ?_
    refine ev_iload_n dModel_lay_111 rfl ?_
    refine ev_iadd dModel_lay_112 ?_
    obtain ⟨h2, H⟩ := H
    refine ev_iald hok (waModel_41 hw) h2 dModel_lay_113 ?_
    obtain ⟨h4, H⟩ := H
    refine ev_iast hok (waModel_41 hw) h4 dModel_lay_114 ?_
    generalize eI3 : q_u I (o + 30) (((700 * x2) + x3) : Int32).toNatClampNeg (I (o + 30) (((700 * x1) + x3) : Int32).toNatClampNeg) = I3
    have H := H I3 eI3
    refine ev_aload_n dModel_lay_115 rfl ?_
    refine ev_getR hok fk_Model_306 (woModel hw) (fun _ _ _ => rfl) (wrModel_42 hw) dModel_lay_116 ?_
    refine ev_sipush (700) dModel_lay_119 (by decide) ?_
    refine ev_iload_n dModel_lay_122 rfl ?_
    refine ev_imul dModel_lay_123 ?_
    refine ev_iload_n dModel_lay_124 rfl ?_
    refine ev_iadd dModel_lay_125 ?_
    refine ev_aload_n dModel_lay_126 rfl ?_
    refine ev_getR hok fk_Model_306 (woModel hw) (fun _ _ _ => rfl) (wrModel_42 hw) dModel_lay_127 ?_
    refine ev_sipush (700) dModel_lay_130 (by decide) ?_
    refine ev_iload_n dModel_lay_133 rfl ?_
    refine ev_imul dModel_lay_134 ?_
    refine ev_iload_n dModel_lay_135 rfl ?_
    refine ev_iadd dModel_lay_136 ?_
    obtain ⟨h5, H⟩ := H
    refine ev_iald hok (waModel_42 hw) h5 dModel_lay_137 ?_
    obtain ⟨h7, H⟩ := H
    refine ev_iast hok (waModel_42 hw) h7 dModel_lay_138 ?_
    generalize eI6 : q_u I3 (o + 31) (((700 * x2) + x3) : Int32).toNatClampNeg (I3 (o + 31) (((700 * x1) + x3) : Int32).toNatClampNeg) = I6
    have H := H I6 eI6
    refine ev_iinc dModel_lay_139 rfl (by decide) ?_
    refine ev_goto 84 dModel_lay_142 (by decide) ?_
    exact ev_sub [(0, .ref o), (1, .int x1), (2, .int x2), (3, .int ((x3 + Int32.ofInt 1)))] rfl H
def fModel_lay_26 (D : va_G) (cA : FieldType → ClassId) (b : Nat) (E : State → Prop) (o : Nat) (n : Nat) (sh : Nat → qC) (Rf : Nat → Nat → Option Nat) (I : Nat → Nat → Int32) (L : Nat → Nat → Int64) (post : Option Value → qS → Prop) (x1 : Int32) (x2 : Int32) (x3 : Int32) : Prop :=
  ((10 ≤ x3 → Ev (qGG D cA b E) mModel_lay 0 (0, 0) 84 [(0, .ref o), (1, .int x1), (2, .int x2), (3, .int 0)] [] (n, sh, Rf, I, L) post) ∧ (¬ 10 ≤ x3 → vp_in ((10 * x1) + x3) 60 ∧ vp_in ((10 * x2) + x3) 60 ∧ ∀ I3 : Nat → Nat → Int32, q_u I (o + 26) (((10 * x2) + x3) : Int32).toNatClampNeg (I (o + 26) (((10 * x1) + x3) : Int32).toNatClampNeg) = I3 → vp_in ((10 * x1) + x3) 60 ∧ vp_in ((10 * x2) + x3) 60 ∧ ∀ I6 : Nat → Nat → Int32, q_u I3 (o + 27) (((10 * x2) + x3) : Int32).toNatClampNeg (I3 (o + 27) (((10 * x1) + x3) : Int32).toNatClampNeg) = I6 → Ev (qGG D cA b E) mModel_lay 0 (0, 0) 26 [(0, .ref o), (1, .int x1), (2, .int x2), (3, .int ((x3 + Int32.ofInt 1)))] [] (n, sh, Rf, I6, L) post))
set_option maxHeartbeats 4000000 in
set_option maxRecDepth 20000 in
theorem sModel_lay_26 {D : va_G} {cA : FieldType → ClassId} {b : Nat} {E : State → Prop} (o : Nat) (n : Nat) (sh : Nat → qC) (Rf : Nat → Nat → Option Nat) (I : Nat → Nat → Int32) (L : Nat → Nat → Int64) (post : Option Value → qS → Prop) (x1 : Int32) (x2 : Int32) (x3 : Int32) (hok : q_ok (qGG D cA b E)) (hw : WfModel (qGG D cA b E) n sh Rf o) (H : fModel_lay_26 D cA b E o n sh Rf I L post x1 x2 x3) : Ev (qGG D cA b E) mModel_lay 0 (0, 0) 26 [(0, .ref o), (1, .int x1), (2, .int x2), (3, .int x3)] [] (n, sh, Rf, I, L) post := by
  unfold fModel_lay_26 at H
  refine ev_iload_n dModel_lay_26 rfl ?_
  refine ev_bipush (10) dModel_lay_27 (by decide) ?_
  refine ev_icmp_ge 82 dModel_lay_29 (by decide) (fun c1 => ?_) (fun c1 => ?_)
  · have H := H.1 c1
    refine ev_iconst (0) dModel_lay_82 (by decide) ?_
    refine ev_istore_n dModel_lay_83 (by decide) ?_
    exact ev_sub [(0, .ref o), (1, .int x1), (2, .int x2), (3, .int 0)] rfl H
  · have H := H.2 c1
    refine ev_aload_n dModel_lay_32 rfl ?_
    refine ev_getR hok fk_Model_285 (woModel hw) (fun _ _ _ => rfl) (wrModel_37 hw) dModel_lay_33 ?_
    refine ev_bipush (10) dModel_lay_36 (by decide) ?_
    refine ev_iload_n dModel_lay_38 rfl ?_
    refine ev_imul dModel_lay_39 ?_
    refine ev_iload_n dModel_lay_40 rfl ?_
    refine ev_iadd dModel_lay_41 ?_
    refine ev_aload_n dModel_lay_42 rfl ?_
    refine ev_getR hok fk_Model_285 (woModel hw) (fun _ _ _ => rfl) (wrModel_37 hw) dModel_lay_43 ?_
    refine ev_bipush (10) dModel_lay_46 (by decide) ?_
    refine ev_iload_n dModel_lay_48 rfl ?_
    refine ev_imul dModel_lay_49 ?_
    refine ev_iload_n dModel_lay_50 rfl ?_
    refine ev_iadd dModel_lay_51 ?_
    obtain ⟨h2, H⟩ := H
    refine ev_iald hok (waModel_37 hw) h2 dModel_lay_52 ?_
    obtain ⟨h4, H⟩ := H
    refine ev_iast hok (waModel_37 hw) h4 dModel_lay_53 ?_
    generalize eI3 : q_u I (o + 26) (((10 * x2) + x3) : Int32).toNatClampNeg (I (o + 26) (((10 * x1) + x3) : Int32).toNatClampNeg) = I3
    have H := H I3 eI3
    refine ev_aload_n dModel_lay_54 rfl ?_
    refine ev_getR hok fk_Model_300 (woModel hw) (fun _ _ _ => rfl) (wrModel_38 hw) dModel_lay_55 ?_
    refine ev_bipush (10) dModel_lay_58 (by decide) ?_
    refine ev_iload_n dModel_lay_60 rfl ?_
    refine ev_imul dModel_lay_61 ?_
    refine ev_iload_n dModel_lay_62 rfl ?_
    refine ev_iadd dModel_lay_63 ?_
    refine ev_aload_n dModel_lay_64 rfl ?_
    refine ev_getR hok fk_Model_300 (woModel hw) (fun _ _ _ => rfl) (wrModel_38 hw) dModel_lay_65 ?_
    refine ev_bipush (10) dModel_lay_68 (by decide) ?_
    refine ev_iload_n dModel_lay_70 rfl ?_
    refine ev_imul dModel_lay_71 ?_
    refine ev_iload_n dModel_lay_72 rfl ?_
    refine ev_iadd dModel_lay_73 ?_
    obtain ⟨h5, H⟩ := H
    refine ev_iald hok (waModel_38 hw) h5 dModel_lay_74 ?_
    obtain ⟨h7, H⟩ := H
    refine ev_iast hok (waModel_38 hw) h7 dModel_lay_75 ?_
    generalize eI6 : q_u I3 (o + 27) (((10 * x2) + x3) : Int32).toNatClampNeg (I3 (o + 27) (((10 * x1) + x3) : Int32).toNatClampNeg) = I6
    have H := H I6 eI6
    refine ev_iinc dModel_lay_76 rfl (by decide) ?_
    refine ev_goto 26 dModel_lay_79 (by decide) ?_
    exact ev_sub [(0, .ref o), (1, .int x1), (2, .int x2), (3, .int ((x3 + Int32.ofInt 1)))] rfl H
def fModel_lay_0 (D : va_G) (cA : FieldType → ClassId) (b : Nat) (E : State → Prop) (o : Nat) (n : Nat) (sh : Nat → qC) (Rf : Nat → Nat → Option Nat) (I : Nat → Nat → Int32) (L : Nat → Nat → Int64) (post : Option Value → qS → Prop) (x1 : Int32) (x2 : Int32) : Prop :=
  vp_in x1 6 ∧ vp_in x2 6 ∧ ∀ I2 : Nat → Nat → Int32, q_u I (o + 28) (x2 : Int32).toNatClampNeg (I (o + 28) (x1 : Int32).toNatClampNeg) = I2 → vp_in x1 6 ∧ vp_in x2 6 ∧ ∀ I5 : Nat → Nat → Int32, q_u I2 (o + 29) (x2 : Int32).toNatClampNeg (I2 (o + 29) (x1 : Int32).toNatClampNeg) = I5 → Ev (qGG D cA b E) mModel_lay 0 (0, 0) 26 [(0, .ref o), (1, .int x1), (2, .int x2), (3, .int 0)] [] (n, sh, Rf, I5, L) post
set_option maxHeartbeats 4000000 in
set_option maxRecDepth 20000 in
theorem sModel_lay_0 {D : va_G} {cA : FieldType → ClassId} {b : Nat} {E : State → Prop} (o : Nat) (n : Nat) (sh : Nat → qC) (Rf : Nat → Nat → Option Nat) (I : Nat → Nat → Int32) (L : Nat → Nat → Int64) (post : Option Value → qS → Prop) (x1 : Int32) (x2 : Int32) (hok : q_ok (qGG D cA b E)) (hw : WfModel (qGG D cA b E) n sh Rf o) (H : fModel_lay_0 D cA b E o n sh Rf I L post x1 x2) : Ev (qGG D cA b E) mModel_lay 0 (0, 0) 0 [(0, .ref o), (1, .int x1), (2, .int x2)] [] (n, sh, Rf, I, L) post := by
  unfold fModel_lay_0 at H
  refine ev_aload_n dModel_lay_0 rfl ?_
  refine ev_getR hok fk_Model_279 (woModel hw) (fun _ _ _ => rfl) (wrModel_39 hw) dModel_lay_1 ?_
  refine ev_iload_n dModel_lay_4 rfl ?_
  refine ev_aload_n dModel_lay_5 rfl ?_
  refine ev_getR hok fk_Model_279 (woModel hw) (fun _ _ _ => rfl) (wrModel_39 hw) dModel_lay_6 ?_
  refine ev_iload_n dModel_lay_9 rfl ?_
  obtain ⟨h1, H⟩ := H
  refine ev_iald hok (waModel_39 hw) h1 dModel_lay_10 ?_
  obtain ⟨h3, H⟩ := H
  refine ev_iast hok (waModel_39 hw) h3 dModel_lay_11 ?_
  generalize eI2 : q_u I (o + 28) (x2 : Int32).toNatClampNeg (I (o + 28) (x1 : Int32).toNatClampNeg) = I2
  have H := H I2 eI2
  refine ev_aload_n dModel_lay_12 rfl ?_
  refine ev_getR hok fk_Model_282 (woModel hw) (fun _ _ _ => rfl) (wrModel_40 hw) dModel_lay_13 ?_
  refine ev_iload_n dModel_lay_16 rfl ?_
  refine ev_aload_n dModel_lay_17 rfl ?_
  refine ev_getR hok fk_Model_282 (woModel hw) (fun _ _ _ => rfl) (wrModel_40 hw) dModel_lay_18 ?_
  refine ev_iload_n dModel_lay_21 rfl ?_
  obtain ⟨h4, H⟩ := H
  refine ev_iald hok (waModel_40 hw) h4 dModel_lay_22 ?_
  obtain ⟨h6, H⟩ := H
  refine ev_iast hok (waModel_40 hw) h6 dModel_lay_23 ?_
  generalize eI5 : q_u I2 (o + 29) (x2 : Int32).toNatClampNeg (I2 (o + 29) (x1 : Int32).toNatClampNeg) = I5
  have H := H I5 eI5
  refine ev_iconst (0) dModel_lay_24 (by decide) ?_
  refine ev_istore_n dModel_lay_25 (by decide) ?_
  exact ev_sub [(0, .ref o), (1, .int x1), (2, .int x2), (3, .int 0)] rfl H
def fModel_least_0 (D : va_G) (cA : FieldType → ClassId) (b : Nat) (E : State → Prop) (n : Nat) (sh : Nat → qC) (Rf : Nat → Nat → Option Nat) (I : Nat → Nat → Int32) (L : Nat → Nat → Int64) (post : Option Value → qS → Prop) (x0 : Int32) (x1 : Int64) : Prop :=
  ((0 ≤ (lg_cmp x1 ((x0 : Int32).toInt64)) → post (some (.int x0)) (n, sh, Rf, I, L)) ∧ (¬ 0 ≤ (lg_cmp x1 ((x0 : Int32).toInt64)) → post (some (.int ((x1 : Int64).toInt32))) (n, sh, Rf, I, L)))
set_option maxHeartbeats 4000000 in
set_option maxRecDepth 20000 in
theorem sModel_least_0 {D : va_G} {cA : FieldType → ClassId} {b : Nat} {E : State → Prop} (n : Nat) (sh : Nat → qC) (Rf : Nat → Nat → Option Nat) (I : Nat → Nat → Int32) (L : Nat → Nat → Int64) (post : Option Value → qS → Prop) (x0 : Int32) (x1 : Int64) (hok : q_ok (qGG D cA b E)) (H : fModel_least_0 D cA b E n sh Rf I L post x0 x1) : Ev (qGG D cA b E) mModel_least 0 (0, 0) 0 [(0, .int x0), (1, .long x1)] [] (n, sh, Rf, I, L) post := by
  unfold fModel_least_0 at H
  refine ev_lload_n dModel_least_0 rfl ?_
  refine ev_iload_n dModel_least_1 rfl ?_
  refine ev_i2l dModel_least_2 ?_
  refine ev_lcmp dModel_least_3 ?_
  refine ev_if_ge 12 dModel_least_4 (by decide) (fun c1 => ?_) (fun c1 => ?_)
  · have H := H.1 c1
    refine ev_iload_n dModel_least_12 rfl ?_
    exact ev_iret rfl dModel_least_13 H
  · have H := H.2 c1
    refine ev_lload_n dModel_least_7 rfl ?_
    refine ev_l2i dModel_least_8 ?_
    refine ev_goto 13 dModel_least_9 (by decide) ?_
    exact ev_iret rfl dModel_least_13 H
def fModel_measure_239 (D : va_G) (cA : FieldType → ClassId) (b : Nat) (E : State → Prop) (o : Nat) (n : Nat) (sh : Nat → qC) (Rf : Nat → Nat → Option Nat) (I : Nat → Nat → Int32) (L : Nat → Nat → Int64) (post : Option Value → qS → Prop) (x1 : Int32) (x2 : Int32) (x3 : Int32) (x4 : Int32) : Prop :=
  Ev (qGG D cA b E) mModel_measure 0 (0, 0) 179 [(0, .ref o), (1, .int x1), (2, .int x2), (3, .int ((x3 + Int32.ofInt 1)))] [] (n, sh, Rf, I, L) post
set_option maxHeartbeats 4000000 in
set_option maxRecDepth 20000 in
theorem sModel_measure_239 {D : va_G} {cA : FieldType → ClassId} {b : Nat} {E : State → Prop} (o : Nat) (n : Nat) (sh : Nat → qC) (Rf : Nat → Nat → Option Nat) (I : Nat → Nat → Int32) (L : Nat → Nat → Int64) (post : Option Value → qS → Prop) (x1 : Int32) (x2 : Int32) (x3 : Int32) (x4 : Int32) (hok : q_ok (qGG D cA b E)) (hw : WfModel (qGG D cA b E) n sh Rf o) (H : fModel_measure_239 D cA b E o n sh Rf I L post x1 x2 x3 x4) : Ev (qGG D cA b E) mModel_measure 0 (0, 0) 239 [(0, .ref o), (1, .int x1), (2, .int x2), (3, .int x3), (4, .int x4)] [] (n, sh, Rf, I, L) post := by
  unfold fModel_measure_239 at H
  refine ev_iinc dModel_measure_239 rfl (by decide) ?_
  refine ev_goto 179 dModel_measure_242 (by decide) ?_
  exact ev_sub [(0, .ref o), (1, .int x1), (2, .int x2), (3, .int ((x3 + Int32.ofInt 1)))] rfl H
def fModel_measure_179 (D : va_G) (cA : FieldType → ClassId) (b : Nat) (E : State → Prop) (o : Nat) (n : Nat) (sh : Nat → qC) (Rf : Nat → Nat → Option Nat) (I : Nat → Nat → Int32) (L : Nat → Nat → Int64) (post : Option Value → qS → Prop) (x1 : Int32) (x2 : Int32) (x3 : Int32) : Prop :=
  ((16 ≤ x3 → Ev (qGG D cA b E) mModel_measure 0 (0, 0) 171 [(0, .ref o), (1, .int x1), (2, .int ((x2 + Int32.ofInt 1)))] [] (n, sh, Rf, I, L) post) ∧ (¬ 16 ≤ x3 → vp_in ((16 * x2) + x1) 256 ∧ vp_in ((16 * x1) + x3) 256 ∧ vp_in ((16 * x2) + x3) 256 ∧ (((I (o + 25) (((16 * x2) + x3) : Int32).toNatClampNeg) ≤ ((I (o + 25) (((16 * x2) + x1) : Int32).toNatClampNeg) + (I (o + 25) (((16 * x1) + x3) : Int32).toNatClampNeg)) → fModel_measure_239 D cA b E o n sh Rf I L post x1 x2 x3 ((I (o + 25) (((16 * x2) + x1) : Int32).toNatClampNeg) + (I (o + 25) (((16 * x1) + x3) : Int32).toNatClampNeg))) ∧ (¬ (I (o + 25) (((16 * x2) + x3) : Int32).toNatClampNeg) ≤ ((I (o + 25) (((16 * x2) + x1) : Int32).toNatClampNeg) + (I (o + 25) (((16 * x1) + x3) : Int32).toNatClampNeg)) → vp_in ((16 * x2) + x3) 256 ∧ ∀ I6 : Nat → Nat → Int32, q_u I (o + 25) (((16 * x2) + x3) : Int32).toNatClampNeg ((I (o + 25) (((16 * x2) + x1) : Int32).toNatClampNeg) + (I (o + 25) (((16 * x1) + x3) : Int32).toNatClampNeg)) = I6 → fModel_measure_239 D cA b E o n sh Rf I6 L post x1 x2 x3 ((I (o + 25) (((16 * x2) + x1) : Int32).toNatClampNeg) + (I (o + 25) (((16 * x1) + x3) : Int32).toNatClampNeg))))))
set_option maxHeartbeats 4000000 in
set_option maxRecDepth 20000 in
theorem sModel_measure_179 {D : va_G} {cA : FieldType → ClassId} {b : Nat} {E : State → Prop} (o : Nat) (n : Nat) (sh : Nat → qC) (Rf : Nat → Nat → Option Nat) (I : Nat → Nat → Int32) (L : Nat → Nat → Int64) (post : Option Value → qS → Prop) (x1 : Int32) (x2 : Int32) (x3 : Int32) (hok : q_ok (qGG D cA b E)) (hw : WfModel (qGG D cA b E) n sh Rf o) (H : fModel_measure_179 D cA b E o n sh Rf I L post x1 x2 x3) : Ev (qGG D cA b E) mModel_measure 0 (0, 0) 179 [(0, .ref o), (1, .int x1), (2, .int x2), (3, .int x3)] [] (n, sh, Rf, I, L) post := by
  unfold fModel_measure_179 at H
  refine ev_iload_n dModel_measure_179 rfl ?_
  refine ev_bipush (16) dModel_measure_180 (by decide) ?_
  refine ev_icmp_ge 245 dModel_measure_182 (by decide) (fun c1 => ?_) (fun c1 => ?_)
  · have H := H.1 c1
    refine ev_iinc dModel_measure_245 rfl (by decide) ?_
    refine ev_goto 171 dModel_measure_248 (by decide) ?_
    exact ev_sub [(0, .ref o), (1, .int x1), (2, .int ((x2 + Int32.ofInt 1)))] rfl H
  · have H := H.2 c1
    refine ev_aload_n dModel_measure_185 rfl ?_
    refine ev_getR hok fk_Model_269 (woModel hw) (fun _ _ _ => rfl) (wrModel_36 hw) dModel_measure_186 ?_
    refine ev_bipush (16) dModel_measure_189 (by decide) ?_
    refine ev_iload_n dModel_measure_191 rfl ?_
    refine ev_imul dModel_measure_192 ?_
    refine ev_iload_n dModel_measure_193 rfl ?_
    refine ev_iadd dModel_measure_194 ?_
    obtain ⟨h2, H⟩ := H
    refine ev_iald hok (waModel_36 hw) h2 dModel_measure_195 ?_
    refine ev_aload_n dModel_measure_196 rfl ?_
    refine ev_getR hok fk_Model_269 (woModel hw) (fun _ _ _ => rfl) (wrModel_36 hw) dModel_measure_197 ?_
    refine ev_bipush (16) dModel_measure_200 (by decide) ?_
    refine ev_iload_n dModel_measure_202 rfl ?_
    refine ev_imul dModel_measure_203 ?_
    refine ev_iload_n dModel_measure_204 rfl ?_
    refine ev_iadd dModel_measure_205 ?_
    obtain ⟨h3, H⟩ := H
    refine ev_iald hok (waModel_36 hw) h3 dModel_measure_206 ?_
    refine ev_iadd dModel_measure_207 ?_
    refine ev_istore dModel_measure_208 (by decide) ?_
    refine ev_iload dModel_measure_210 rfl ?_
    refine ev_aload_n dModel_measure_212 rfl ?_
    refine ev_getR hok fk_Model_269 (woModel hw) (fun _ _ _ => rfl) (wrModel_36 hw) dModel_measure_213 ?_
    refine ev_bipush (16) dModel_measure_216 (by decide) ?_
    refine ev_iload_n dModel_measure_218 rfl ?_
    refine ev_imul dModel_measure_219 ?_
    refine ev_iload_n dModel_measure_220 rfl ?_
    refine ev_iadd dModel_measure_221 ?_
    obtain ⟨h4, H⟩ := H
    refine ev_iald hok (waModel_36 hw) h4 dModel_measure_222 ?_
    refine ev_icmp_ge 239 dModel_measure_223 (by decide) (fun c5 => ?_) (fun c5 => ?_)
    · have H := H.1 c5
      exact ev_sub [(0, .ref o), (1, .int x1), (2, .int x2), (3, .int x3), (4, .int (((I (o + 25) (((16 * x2) + x1) : Int32).toNatClampNeg) + (I (o + 25) (((16 * x1) + x3) : Int32).toNatClampNeg))))] rfl (sModel_measure_239 o n sh Rf I L post x1 x2 x3 ((I (o + 25) (((16 * x2) + x1) : Int32).toNatClampNeg) + (I (o + 25) (((16 * x1) + x3) : Int32).toNatClampNeg)) hok hw H)
    · have H := H.2 c5
      refine ev_aload_n dModel_measure_226 rfl ?_
      refine ev_getR hok fk_Model_269 (woModel hw) (fun _ _ _ => rfl) (wrModel_36 hw) dModel_measure_227 ?_
      refine ev_bipush (16) dModel_measure_230 (by decide) ?_
      refine ev_iload_n dModel_measure_232 rfl ?_
      refine ev_imul dModel_measure_233 ?_
      refine ev_iload_n dModel_measure_234 rfl ?_
      refine ev_iadd dModel_measure_235 ?_
      refine ev_iload dModel_measure_236 rfl ?_
      obtain ⟨h7, H⟩ := H
      refine ev_iast hok (waModel_36 hw) h7 dModel_measure_238 ?_
      generalize eI6 : q_u I (o + 25) (((16 * x2) + x3) : Int32).toNatClampNeg ((I (o + 25) (((16 * x2) + x1) : Int32).toNatClampNeg) + (I (o + 25) (((16 * x1) + x3) : Int32).toNatClampNeg)) = I6
      have H := H I6 eI6
      exact ev_sub [(0, .ref o), (1, .int x1), (2, .int x2), (3, .int x3), (4, .int (((I (o + 25) (((16 * x2) + x1) : Int32).toNatClampNeg) + (I (o + 25) (((16 * x1) + x3) : Int32).toNatClampNeg))))] rfl (sModel_measure_239 o n sh Rf I6 L post x1 x2 x3 ((I (o + 25) (((16 * x2) + x1) : Int32).toNatClampNeg) + (I (o + 25) (((16 * x1) + x3) : Int32).toNatClampNeg)) hok hw H)
def fModel_measure_171 (D : va_G) (cA : FieldType → ClassId) (b : Nat) (E : State → Prop) (o : Nat) (n : Nat) (sh : Nat → qC) (Rf : Nat → Nat → Option Nat) (I : Nat → Nat → Int32) (L : Nat → Nat → Int64) (post : Option Value → qS → Prop) (x1 : Int32) (x2 : Int32) : Prop :=
  ((16 ≤ x2 → Ev (qGG D cA b E) mModel_measure 0 (0, 0) 163 [(0, .ref o), (1, .int ((x1 + Int32.ofInt 1)))] [] (n, sh, Rf, I, L) post) ∧ (¬ 16 ≤ x2 → Ev (qGG D cA b E) mModel_measure 0 (0, 0) 179 [(0, .ref o), (1, .int x1), (2, .int x2), (3, .int 0)] [] (n, sh, Rf, I, L) post))
set_option maxHeartbeats 4000000 in
set_option maxRecDepth 20000 in
theorem sModel_measure_171 {D : va_G} {cA : FieldType → ClassId} {b : Nat} {E : State → Prop} (o : Nat) (n : Nat) (sh : Nat → qC) (Rf : Nat → Nat → Option Nat) (I : Nat → Nat → Int32) (L : Nat → Nat → Int64) (post : Option Value → qS → Prop) (x1 : Int32) (x2 : Int32) (hok : q_ok (qGG D cA b E)) (hw : WfModel (qGG D cA b E) n sh Rf o) (H : fModel_measure_171 D cA b E o n sh Rf I L post x1 x2) : Ev (qGG D cA b E) mModel_measure 0 (0, 0) 171 [(0, .ref o), (1, .int x1), (2, .int x2)] [] (n, sh, Rf, I, L) post := by
  unfold fModel_measure_171 at H
  refine ev_iload_n dModel_measure_171 rfl ?_
  refine ev_bipush (16) dModel_measure_172 (by decide) ?_
  refine ev_icmp_ge 251 dModel_measure_174 (by decide) (fun c1 => ?_) (fun c1 => ?_)
  · have H := H.1 c1
    refine ev_iinc dModel_measure_251 rfl (by decide) ?_
    refine ev_goto 163 dModel_measure_254 (by decide) ?_
    exact ev_sub [(0, .ref o), (1, .int ((x1 + Int32.ofInt 1)))] rfl H
  · have H := H.2 c1
    refine ev_iconst (0) dModel_measure_177 (by decide) ?_
    refine ev_istore_n dModel_measure_178 (by decide) ?_
    exact ev_sub [(0, .ref o), (1, .int x1), (2, .int x2), (3, .int 0)] rfl H
def fModel_measure_163 (D : va_G) (cA : FieldType → ClassId) (b : Nat) (E : State → Prop) (o : Nat) (n : Nat) (sh : Nat → qC) (Rf : Nat → Nat → Option Nat) (I : Nat → Nat → Int32) (L : Nat → Nat → Int64) (post : Option Value → qS → Prop) (x1 : Int32) : Prop :=
  ((16 ≤ x1 → post none (n, sh, Rf, I, L)) ∧ (¬ 16 ≤ x1 → Ev (qGG D cA b E) mModel_measure 0 (0, 0) 171 [(0, .ref o), (1, .int x1), (2, .int 0)] [] (n, sh, Rf, I, L) post))
set_option maxHeartbeats 4000000 in
set_option maxRecDepth 20000 in
theorem sModel_measure_163 {D : va_G} {cA : FieldType → ClassId} {b : Nat} {E : State → Prop} (o : Nat) (n : Nat) (sh : Nat → qC) (Rf : Nat → Nat → Option Nat) (I : Nat → Nat → Int32) (L : Nat → Nat → Int64) (post : Option Value → qS → Prop) (x1 : Int32) (hok : q_ok (qGG D cA b E)) (hw : WfModel (qGG D cA b E) n sh Rf o) (H : fModel_measure_163 D cA b E o n sh Rf I L post x1) : Ev (qGG D cA b E) mModel_measure 0 (0, 0) 163 [(0, .ref o), (1, .int x1)] [] (n, sh, Rf, I, L) post := by
  unfold fModel_measure_163 at H
  refine ev_iload_n dModel_measure_163 rfl ?_
  refine ev_bipush (16) dModel_measure_164 (by decide) ?_
  refine ev_icmp_ge 257 dModel_measure_166 (by decide) (fun c1 => ?_) (fun c1 => ?_)
  · have H := H.1 c1
    exact ev_vret rfl dModel_measure_257 H
  · have H := H.2 c1
    refine ev_iconst (0) dModel_measure_169 (by decide) ?_
    refine ev_istore_n dModel_measure_170 (by decide) ?_
    exact ev_sub [(0, .ref o), (1, .int x1), (2, .int 0)] rfl H
def fModel_measure_155 (D : va_G) (cA : FieldType → ClassId) (b : Nat) (E : State → Prop) (o : Nat) (n : Nat) (sh : Nat → qC) (Rf : Nat → Nat → Option Nat) (I : Nat → Nat → Int32) (L : Nat → Nat → Int64) (post : Option Value → qS → Prop) (x1 : Int32) : Prop :=
  Ev (qGG D cA b E) mModel_measure 0 (0, 0) 47 [(0, .ref o), (1, .int ((x1 + Int32.ofInt 1)))] [] (n, sh, Rf, I, L) post
set_option maxHeartbeats 4000000 in
set_option maxRecDepth 20000 in
theorem sModel_measure_155 {D : va_G} {cA : FieldType → ClassId} {b : Nat} {E : State → Prop} (o : Nat) (n : Nat) (sh : Nat → qC) (Rf : Nat → Nat → Option Nat) (I : Nat → Nat → Int32) (L : Nat → Nat → Int64) (post : Option Value → qS → Prop) (x1 : Int32) (hok : q_ok (qGG D cA b E)) (hw : WfModel (qGG D cA b E) n sh Rf o) (H : fModel_measure_155 D cA b E o n sh Rf I L post x1) : Ev (qGG D cA b E) mModel_measure 0 (0, 0) 155 [(0, .ref o), (1, .int x1)] [] (n, sh, Rf, I, L) post := by
  unfold fModel_measure_155 at H
  refine ev_iinc dModel_measure_155 rfl (by decide) ?_
  refine ev_goto 47 dModel_measure_158 (by decide) ?_
  exact ev_sub [(0, .ref o), (1, .int ((x1 + Int32.ofInt 1)))] rfl H
def fModel_measure_47 (D : va_G) (cA : FieldType → ClassId) (b : Nat) (E : State → Prop) (o : Nat) (n : Nat) (sh : Nat → qC) (Rf : Nat → Nat → Option Nat) (I : Nat → Nat → Int32) (L : Nat → Nat → Int64) (post : Option Value → qS → Prop) (x1 : Int32) : Prop :=
  vp_in (I o 34) 2 ∧ ((((24 * (I o 34)) + (I (o + 6) ((I o 34) : Int32).toNatClampNeg)) ≤ x1 → Ev (qGG D cA b E) mModel_measure 0 (0, 0) 163 [(0, .ref o), (1, .int 0)] [] (n, sh, Rf, I, L) post) ∧ (¬ ((24 * (I o 34)) + (I (o + 6) ((I o 34) : Int32).toNatClampNeg)) ≤ x1 → vp_in x1 48 ∧ vp_in x1 48 ∧ vp_in x1 48 ∧ vp_in ((16 * (I (o + 10) (x1 : Int32).toNatClampNeg)) + (I (o + 11) (x1 : Int32).toNatClampNeg)) 256 ∧ (((I (o + 12) (x1 : Int32).toNatClampNeg) < (I (o + 25) (((16 * (I (o + 10) (x1 : Int32).toNatClampNeg)) + (I (o + 11) (x1 : Int32).toNatClampNeg)) : Int32).toNatClampNeg) → vp_in x1 48 ∧ vp_in x1 48 ∧ vp_in x1 48 ∧ vp_in ((16 * (I (o + 10) (x1 : Int32).toNatClampNeg)) + (I (o + 11) (x1 : Int32).toNatClampNeg)) 256 ∧ ∀ I11 : Nat → Nat → Int32, q_u I (o + 25) (((16 * (I (o + 10) (x1 : Int32).toNatClampNeg)) + (I (o + 11) (x1 : Int32).toNatClampNeg)) : Int32).toNatClampNeg (I (o + 12) (x1 : Int32).toNatClampNeg) = I11 → vp_in x1 48 ∧ vp_in x1 48 ∧ vp_in x1 48 ∧ vp_in ((16 * (I11 (o + 11) (x1 : Int32).toNatClampNeg)) + (I11 (o + 10) (x1 : Int32).toNatClampNeg)) 256 ∧ ∀ I16 : Nat → Nat → Int32, q_u I11 (o + 25) (((16 * (I11 (o + 11) (x1 : Int32).toNatClampNeg)) + (I11 (o + 10) (x1 : Int32).toNatClampNeg)) : Int32).toNatClampNeg (I11 (o + 12) (x1 : Int32).toNatClampNeg) = I16 → fModel_measure_155 D cA b E o n sh Rf I16 L post x1) ∧ (¬ (I (o + 12) (x1 : Int32).toNatClampNeg) < (I (o + 25) (((16 * (I (o + 10) (x1 : Int32).toNatClampNeg)) + (I (o + 11) (x1 : Int32).toNatClampNeg)) : Int32).toNatClampNeg) → fModel_measure_155 D cA b E o n sh Rf I L post x1))))
set_option maxHeartbeats 4000000 in
set_option maxRecDepth 20000 in
theorem sModel_measure_47 {D : va_G} {cA : FieldType → ClassId} {b : Nat} {E : State → Prop} (o : Nat) (n : Nat) (sh : Nat → qC) (Rf : Nat → Nat → Option Nat) (I : Nat → Nat → Int32) (L : Nat → Nat → Int64) (post : Option Value → qS → Prop) (x1 : Int32) (hok : q_ok (qGG D cA b E)) (hw : WfModel (qGG D cA b E) n sh Rf o) (H : fModel_measure_47 D cA b E o n sh Rf I L post x1) : Ev (qGG D cA b E) mModel_measure 0 (0, 0) 47 [(0, .ref o), (1, .int x1)] [] (n, sh, Rf, I, L) post := by
  unfold fModel_measure_47 at H
  refine ev_iload_n dModel_measure_47 rfl ?_
  refine ev_bipush (24) dModel_measure_48 (by decide) ?_
  refine ev_aload_n dModel_measure_50 rfl ?_
  refine ev_getI hok fk_Model_147 (woModel hw) (fun _ _ _ => rfl) dModel_measure_51 ?_
  refine ev_imul dModel_measure_54 ?_
  refine ev_aload_n dModel_measure_55 rfl ?_
  refine ev_getR hok fk_Model_153 (woModel hw) (fun _ _ _ => rfl) (wrModel_15 hw) dModel_measure_56 ?_
  refine ev_aload_n dModel_measure_59 rfl ?_
  refine ev_getI hok fk_Model_147 (woModel hw) (fun _ _ _ => rfl) dModel_measure_60 ?_
  obtain ⟨h1, H⟩ := H
  refine ev_iald hok (waModel_15 hw) h1 dModel_measure_63 ?_
  refine ev_iadd dModel_measure_64 ?_
  refine ev_icmp_ge 161 dModel_measure_65 (by decide) (fun c2 => ?_) (fun c2 => ?_)
  · have H := H.1 c2
    refine ev_iconst (0) dModel_measure_161 (by decide) ?_
    refine ev_istore_n dModel_measure_162 (by decide) ?_
    exact ev_sub [(0, .ref o), (1, .int 0)] rfl H
  · have H := H.2 c2
    refine ev_aload_n dModel_measure_68 rfl ?_
    refine ev_getR hok fk_Model_209 (woModel hw) (fun _ _ _ => rfl) (wrModel_21 hw) dModel_measure_69 ?_
    refine ev_iload_n dModel_measure_72 rfl ?_
    obtain ⟨h3, H⟩ := H
    refine ev_iald hok (waModel_21 hw) h3 dModel_measure_73 ?_
    refine ev_aload_n dModel_measure_74 rfl ?_
    refine ev_getR hok fk_Model_269 (woModel hw) (fun _ _ _ => rfl) (wrModel_36 hw) dModel_measure_75 ?_
    refine ev_bipush (16) dModel_measure_78 (by decide) ?_
    refine ev_aload_n dModel_measure_80 rfl ?_
    refine ev_getR hok fk_Model_199 (woModel hw) (fun _ _ _ => rfl) (wrModel_19 hw) dModel_measure_81 ?_
    refine ev_iload_n dModel_measure_84 rfl ?_
    obtain ⟨h4, H⟩ := H
    refine ev_iald hok (waModel_19 hw) h4 dModel_measure_85 ?_
    refine ev_imul dModel_measure_86 ?_
    refine ev_aload_n dModel_measure_87 rfl ?_
    refine ev_getR hok fk_Model_206 (woModel hw) (fun _ _ _ => rfl) (wrModel_20 hw) dModel_measure_88 ?_
    refine ev_iload_n dModel_measure_91 rfl ?_
    obtain ⟨h5, H⟩ := H
    refine ev_iald hok (waModel_20 hw) h5 dModel_measure_92 ?_
    refine ev_iadd dModel_measure_93 ?_
    obtain ⟨h6, H⟩ := H
    refine ev_iald hok (waModel_36 hw) h6 dModel_measure_94 ?_
    refine ev_icmp_lt 101 dModel_measure_95 (by decide) (fun c7 => ?_) (fun c7 => ?_)
    · have H := H.1 c7
      refine ev_aload_n dModel_measure_101 rfl ?_
      refine ev_getR hok fk_Model_269 (woModel hw) (fun _ _ _ => rfl) (wrModel_36 hw) dModel_measure_102 ?_
      refine ev_bipush (16) dModel_measure_105 (by decide) ?_
      refine ev_aload_n dModel_measure_107 rfl ?_
      refine ev_getR hok fk_Model_199 (woModel hw) (fun _ _ _ => rfl) (wrModel_19 hw) dModel_measure_108 ?_
      refine ev_iload_n dModel_measure_111 rfl ?_
      obtain ⟨h8, H⟩ := H
      refine ev_iald hok (waModel_19 hw) h8 dModel_measure_112 ?_
      refine ev_imul dModel_measure_113 ?_
      refine ev_aload_n dModel_measure_114 rfl ?_
      refine ev_getR hok fk_Model_206 (woModel hw) (fun _ _ _ => rfl) (wrModel_20 hw) dModel_measure_115 ?_
      refine ev_iload_n dModel_measure_118 rfl ?_
      obtain ⟨h9, H⟩ := H
      refine ev_iald hok (waModel_20 hw) h9 dModel_measure_119 ?_
      refine ev_iadd dModel_measure_120 ?_
      refine ev_aload_n dModel_measure_121 rfl ?_
      refine ev_getR hok fk_Model_209 (woModel hw) (fun _ _ _ => rfl) (wrModel_21 hw) dModel_measure_122 ?_
      refine ev_iload_n dModel_measure_125 rfl ?_
      obtain ⟨h10, H⟩ := H
      refine ev_iald hok (waModel_21 hw) h10 dModel_measure_126 ?_
      obtain ⟨h12, H⟩ := H
      refine ev_iast hok (waModel_36 hw) h12 dModel_measure_127 ?_
      generalize eI11 : q_u I (o + 25) (((16 * (I (o + 10) (x1 : Int32).toNatClampNeg)) + (I (o + 11) (x1 : Int32).toNatClampNeg)) : Int32).toNatClampNeg (I (o + 12) (x1 : Int32).toNatClampNeg) = I11
      have H := H I11 eI11
      refine ev_aload_n dModel_measure_128 rfl ?_
      refine ev_getR hok fk_Model_269 (woModel hw) (fun _ _ _ => rfl) (wrModel_36 hw) dModel_measure_129 ?_
      refine ev_bipush (16) dModel_measure_132 (by decide) ?_
      refine ev_aload_n dModel_measure_134 rfl ?_
      refine ev_getR hok fk_Model_206 (woModel hw) (fun _ _ _ => rfl) (wrModel_20 hw) dModel_measure_135 ?_
      refine ev_iload_n dModel_measure_138 rfl ?_
      obtain ⟨h13, H⟩ := H
      refine ev_iald hok (waModel_20 hw) h13 dModel_measure_139 ?_
      refine ev_imul dModel_measure_140 ?_
      refine ev_aload_n dModel_measure_141 rfl ?_
      refine ev_getR hok fk_Model_199 (woModel hw) (fun _ _ _ => rfl) (wrModel_19 hw) dModel_measure_142 ?_
      refine ev_iload_n dModel_measure_145 rfl ?_
      obtain ⟨h14, H⟩ := H
      refine ev_iald hok (waModel_19 hw) h14 dModel_measure_146 ?_
      refine ev_iadd dModel_measure_147 ?_
      refine ev_aload_n dModel_measure_148 rfl ?_
      refine ev_getR hok fk_Model_209 (woModel hw) (fun _ _ _ => rfl) (wrModel_21 hw) dModel_measure_149 ?_
      refine ev_iload_n dModel_measure_152 rfl ?_
      obtain ⟨h15, H⟩ := H
      refine ev_iald hok (waModel_21 hw) h15 dModel_measure_153 ?_
      obtain ⟨h17, H⟩ := H
      refine ev_iast hok (waModel_36 hw) h17 dModel_measure_154 ?_
      generalize eI16 : q_u I11 (o + 25) (((16 * (I11 (o + 11) (x1 : Int32).toNatClampNeg)) + (I11 (o + 10) (x1 : Int32).toNatClampNeg)) : Int32).toNatClampNeg (I11 (o + 12) (x1 : Int32).toNatClampNeg) = I16
      have H := H I16 eI16
      exact ev_sub [(0, .ref o), (1, .int x1)] rfl (sModel_measure_155 o n sh Rf I16 L post x1 hok hw H)
    · have H := H.2 c7
      refine ev_goto 155 dModel_measure_98 (by decide) ?_
      exact ev_sub [(0, .ref o), (1, .int x1)] rfl (sModel_measure_155 o n sh Rf I L post x1 hok hw H)
def fModel_measure_32 (D : va_G) (cA : FieldType → ClassId) (b : Nat) (E : State → Prop) (o : Nat) (n : Nat) (sh : Nat → qC) (Rf : Nat → Nat → Option Nat) (I : Nat → Nat → Int32) (L : Nat → Nat → Int64) (post : Option Value → qS → Prop) (x1 : Int32) (z0 : Int32) (z1 : Int32) : Prop :=
  vp_in z1 256 ∧ ∀ I1 : Nat → Nat → Int32, q_u I (o + 25) (z1 : Int32).toNatClampNeg z0 = I1 → Ev (qGG D cA b E) mModel_measure 0 (0, 0) 2 [(0, .ref o), (1, .int ((x1 + Int32.ofInt 1)))] [] (n, sh, Rf, I1, L) post
set_option maxHeartbeats 4000000 in
set_option maxRecDepth 20000 in
theorem sModel_measure_32 {D : va_G} {cA : FieldType → ClassId} {b : Nat} {E : State → Prop} (o : Nat) (n : Nat) (sh : Nat → qC) (Rf : Nat → Nat → Option Nat) (I : Nat → Nat → Int32) (L : Nat → Nat → Int64) (post : Option Value → qS → Prop) (x1 : Int32) (z0 : Int32) (z1 : Int32) (hok : q_ok (qGG D cA b E)) (hw : WfModel (qGG D cA b E) n sh Rf o) (H : fModel_measure_32 D cA b E o n sh Rf I L post x1 z0 z1) : Ev (qGG D cA b E) mModel_measure 0 (0, 0) 32 [(0, .ref o), (1, .int x1)] [.int z0, .int z1, .ref ((o + 25))] (n, sh, Rf, I, L) post := by
  unfold fModel_measure_32 at H
  obtain ⟨h2, H⟩ := H
  refine ev_iast hok (waModel_36 hw) h2 dModel_measure_32 ?_
  generalize eI1 : q_u I (o + 25) (z1 : Int32).toNatClampNeg z0 = I1
  have H := H I1 eI1
  refine ev_iinc dModel_measure_33 rfl (by decide) ?_
  refine ev_goto 2 dModel_measure_36 (by decide) ?_
  exact ev_sub [(0, .ref o), (1, .int ((x1 + Int32.ofInt 1)))] rfl H
def fModel_measure_2 (D : va_G) (cA : FieldType → ClassId) (b : Nat) (E : State → Prop) (o : Nat) (n : Nat) (sh : Nat → qC) (Rf : Nat → Nat → Option Nat) (I : Nat → Nat → Int32) (L : Nat → Nat → Int64) (post : Option Value → qS → Prop) (x1 : Int32) : Prop :=
  ((256 ≤ x1 → Ev (qGG D cA b E) mModel_measure 0 (0, 0) 47 [(0, .ref o), (1, .int ((24 * (I o 34))))] [] (n, sh, Rf, I, L) post) ∧ (¬ 256 ≤ x1 → ((¬ (x1 / 16) = (x1 - x1 / 16 * 16) → fModel_measure_32 D cA b E o n sh Rf I L post x1 1000000 x1) ∧ ((x1 / 16) = (x1 - x1 / 16 * 16) → fModel_measure_32 D cA b E o n sh Rf I L post x1 0 x1))))
set_option maxHeartbeats 4000000 in
set_option maxRecDepth 20000 in
theorem sModel_measure_2 {D : va_G} {cA : FieldType → ClassId} {b : Nat} {E : State → Prop} (o : Nat) (n : Nat) (sh : Nat → qC) (Rf : Nat → Nat → Option Nat) (I : Nat → Nat → Int32) (L : Nat → Nat → Int64) (post : Option Value → qS → Prop) (x1 : Int32) (hok : q_ok (qGG D cA b E)) (hw : WfModel (qGG D cA b E) n sh Rf o) (H : fModel_measure_2 D cA b E o n sh Rf I L post x1) : Ev (qGG D cA b E) mModel_measure 0 (0, 0) 2 [(0, .ref o), (1, .int x1)] [] (n, sh, Rf, I, L) post := by
  unfold fModel_measure_2 at H
  refine ev_iload_n dModel_measure_2 rfl ?_
  refine ev_sipush (256) dModel_measure_3 (by decide) ?_
  refine ev_icmp_ge 39 dModel_measure_6 (by decide) (fun c1 => ?_) (fun c1 => ?_)
  · have H := H.1 c1
    refine ev_bipush (24) dModel_measure_39 (by decide) ?_
    refine ev_aload_n dModel_measure_41 rfl ?_
    refine ev_getI hok fk_Model_147 (woModel hw) (fun _ _ _ => rfl) dModel_measure_42 ?_
    refine ev_imul dModel_measure_45 ?_
    refine ev_istore_n dModel_measure_46 (by decide) ?_
    exact ev_sub [(0, .ref o), (1, .int ((24 * (I o 34))))] rfl H
  · have H := H.2 c1
    refine ev_aload_n dModel_measure_9 rfl ?_
    refine ev_getR hok fk_Model_269 (woModel hw) (fun _ _ _ => rfl) (wrModel_36 hw) dModel_measure_10 ?_
    refine ev_iload_n dModel_measure_13 rfl ?_
    refine ev_iload_n dModel_measure_14 rfl ?_
    refine ev_bipush (16) dModel_measure_15 (by decide) ?_
    refine ev_idiv dModel_measure_17 (by decide) ?_
    refine ev_iload_n dModel_measure_18 rfl ?_
    refine ev_bipush (16) dModel_measure_19 (by decide) ?_
    refine ev_irem dModel_measure_21 (by decide) ?_
    refine ev_icmp_ne 29 dModel_measure_22 (by decide) (fun c2 => ?_) (fun c2 => ?_)
    · have H := H.1 c2
      refine ev_ldcw (1000000) dModel_measure_29 (q_t7 91 (by decide +kernel) rfl) ?_
      exact ev_sub [(0, .ref o), (1, .int x1)] rfl (sModel_measure_32 o n sh Rf I L post x1 1000000 x1 hok hw H)
    · have H := H.2 c2
      refine ev_iconst (0) dModel_measure_25 (by decide) ?_
      refine ev_goto 32 dModel_measure_26 (by decide) ?_
      exact ev_sub [(0, .ref o), (1, .int x1)] rfl (sModel_measure_32 o n sh Rf I L post x1 0 x1 hok hw H)
def fModel_measure_0 (D : va_G) (cA : FieldType → ClassId) (b : Nat) (E : State → Prop) (o : Nat) (n : Nat) (sh : Nat → qC) (Rf : Nat → Nat → Option Nat) (I : Nat → Nat → Int32) (L : Nat → Nat → Int64) (post : Option Value → qS → Prop)  : Prop :=
  Ev (qGG D cA b E) mModel_measure 0 (0, 0) 2 [(0, .ref o), (1, .int 0)] [] (n, sh, Rf, I, L) post
set_option maxHeartbeats 4000000 in
set_option maxRecDepth 20000 in
theorem sModel_measure_0 {D : va_G} {cA : FieldType → ClassId} {b : Nat} {E : State → Prop} (o : Nat) (n : Nat) (sh : Nat → qC) (Rf : Nat → Nat → Option Nat) (I : Nat → Nat → Int32) (L : Nat → Nat → Int64) (post : Option Value → qS → Prop)  (hok : q_ok (qGG D cA b E)) (hw : WfModel (qGG D cA b E) n sh Rf o) (H : fModel_measure_0 D cA b E o n sh Rf I L post ) : Ev (qGG D cA b E) mModel_measure 0 (0, 0) 0 [(0, .ref o)] [] (n, sh, Rf, I, L) post := by
  unfold fModel_measure_0 at H
  refine ev_iconst (0) dModel_measure_0 (by decide) ?_
  refine ev_istore_n dModel_measure_1 (by decide) ?_
  exact ev_sub [(0, .ref o), (1, .int 0)] rfl H
def fModel_merchant_0 (D : va_G) (cA : FieldType → ClassId) (b : Nat) (E : State → Prop) (o : Nat) (n : Nat) (sh : Nat → qC) (Rf : Nat → Nat → Option Nat) (I : Nat → Nat → Int32) (L : Nat → Nat → Int64) (post : Option Value → qS → Prop) (x1 : Int32) : Prop :=
  ((x1 < 0 → post (some (.int ((-1)))) (n, sh, Rf, I, L)) ∧ (¬ x1 < 0 → ((30000 < x1 → post (some (.int ((-1)))) (n, sh, Rf, I, L)) ∧ (¬ 30000 < x1 → ((¬ (I o 66) = 6 → ∀ I4 : Nat → Nat → Int32, q_u I o 135 0 = I4 → vp_in (I4 o 66) 6 ∧ ∀ I5 : Nat → Nat → Int32, q_u I4 (o + 35) ((I4 o 66) : Int32).toNatClampNeg x1 = I5 → ∀ I7 : Nat → Nat → Int32, q_u I5 o 66 ((I5 o 66) + 1) = I7 → post (some (.int (((I7 o 66) - 1)))) (n, sh, Rf, I7, L)) ∧ ((I o 66) = 6 → post (some (.int ((-1)))) (n, sh, Rf, I, L)))))))
set_option maxHeartbeats 4000000 in
set_option maxRecDepth 20000 in
theorem sModel_merchant_0 {D : va_G} {cA : FieldType → ClassId} {b : Nat} {E : State → Prop} (o : Nat) (n : Nat) (sh : Nat → qC) (Rf : Nat → Nat → Option Nat) (I : Nat → Nat → Int32) (L : Nat → Nat → Int64) (post : Option Value → qS → Prop) (x1 : Int32) (hok : q_ok (qGG D cA b E)) (hw : WfModel (qGG D cA b E) n sh Rf o) (H : fModel_merchant_0 D cA b E o n sh Rf I L post x1) : Ev (qGG D cA b E) mModel_merchant 0 (0, 0) 0 [(0, .ref o), (1, .int x1)] [] (n, sh, Rf, I, L) post := by
  unfold fModel_merchant_0 at H
  refine ev_iload_n dModel_merchant_0 rfl ?_
  refine ev_if_lt 20 dModel_merchant_1 (by decide) (fun c1 => ?_) (fun c1 => ?_)
  · have H := H.1 c1
    refine ev_iconst (-1) dModel_merchant_20 (by decide) ?_
    exact ev_iret rfl dModel_merchant_21 H
  · have H := H.2 c1
    refine ev_iload_n dModel_merchant_4 rfl ?_
    refine ev_sipush (30000) dModel_merchant_5 (by decide) ?_
    refine ev_icmp_gt 20 dModel_merchant_8 (by decide) (fun c2 => ?_) (fun c2 => ?_)
    · have H := H.1 c2
      refine ev_iconst (-1) dModel_merchant_20 (by decide) ?_
      exact ev_iret rfl dModel_merchant_21 H
    · have H := H.2 c2
      refine ev_aload_n dModel_merchant_11 rfl ?_
      refine ev_getI hok fk_Model_387 (woModel hw) (fun _ _ _ => rfl) dModel_merchant_12 ?_
      refine ev_bipush (6) dModel_merchant_15 (by decide) ?_
      refine ev_icmp_ne 22 dModel_merchant_17 (by decide) (fun c3 => ?_) (fun c3 => ?_)
      · have H := H.1 c3
        refine ev_aload_n dModel_merchant_22 rfl ?_
        refine ev_iconst (0) dModel_merchant_23 (by decide) ?_
        refine ev_putI hok fk_Model_172 (woModel hw) (fun _ _ _ => rfl) (q_bz (Or.inl rfl)) (q_bf (Or.inl rfl)) dModel_merchant_24 ?_
        generalize eI4 : q_u I o 135 0 = I4
        have H := H I4 eI4
        refine ev_aload_n dModel_merchant_27 rfl ?_
        refine ev_getR hok fk_Model_390 (woModel hw) (fun _ _ _ => rfl) (wrModel_59 hw) dModel_merchant_28 ?_
        refine ev_aload_n dModel_merchant_31 rfl ?_
        refine ev_getI hok fk_Model_387 (woModel hw) (fun _ _ _ => rfl) dModel_merchant_32 ?_
        refine ev_iload_n dModel_merchant_35 rfl ?_
        obtain ⟨h6, H⟩ := H
        refine ev_iast hok (waModel_59 hw) h6 dModel_merchant_36 ?_
        generalize eI5 : q_u I4 (o + 35) ((I4 o 66) : Int32).toNatClampNeg x1 = I5
        have H := H I5 eI5
        refine ev_aload_n dModel_merchant_37 rfl ?_
        refine ev_dup dModel_merchant_38 rfl ?_
        refine ev_getI hok fk_Model_387 (woModel hw) (fun _ _ _ => rfl) dModel_merchant_39 ?_
        refine ev_iconst (1) dModel_merchant_42 (by decide) ?_
        refine ev_iadd dModel_merchant_43 ?_
        refine ev_putI hok fk_Model_387 (woModel hw) (fun _ _ _ => rfl) rfl rfl dModel_merchant_44 ?_
        generalize eI7 : q_u I5 o 66 ((I5 o 66) + 1) = I7
        have H := H I7 eI7
        refine ev_aload_n dModel_merchant_47 rfl ?_
        refine ev_getI hok fk_Model_387 (woModel hw) (fun _ _ _ => rfl) dModel_merchant_48 ?_
        refine ev_iconst (1) dModel_merchant_51 (by decide) ?_
        refine ev_isub dModel_merchant_52 ?_
        exact ev_iret rfl dModel_merchant_53 H
      · have H := H.2 c3
        refine ev_iconst (-1) dModel_merchant_20 (by decide) ?_
        exact ev_iret rfl dModel_merchant_21 H
def fModel_monthsOf_0 (D : va_G) (cA : FieldType → ClassId) (b : Nat) (E : State → Prop) (n : Nat) (sh : Nat → qC) (Rf : Nat → Nat → Option Nat) (I : Nat → Nat → Int32) (L : Nat → Nat → Int64) (post : Option Value → qS → Prop) (x0 : Int32) : Prop :=
  post (some (.int (((x0 + 29) / 30)))) (n, sh, Rf, I, L)
set_option maxHeartbeats 4000000 in
set_option maxRecDepth 20000 in
theorem sModel_monthsOf_0 {D : va_G} {cA : FieldType → ClassId} {b : Nat} {E : State → Prop} (n : Nat) (sh : Nat → qC) (Rf : Nat → Nat → Option Nat) (I : Nat → Nat → Int32) (L : Nat → Nat → Int64) (post : Option Value → qS → Prop) (x0 : Int32) (hok : q_ok (qGG D cA b E)) (H : fModel_monthsOf_0 D cA b E n sh Rf I L post x0) : Ev (qGG D cA b E) mModel_monthsOf 0 (0, 0) 0 [(0, .int x0)] [] (n, sh, Rf, I, L) post := by
  unfold fModel_monthsOf_0 at H
  refine ev_iload_n dModel_monthsOf_0 rfl ?_
  refine ev_bipush (29) dModel_monthsOf_1 (by decide) ?_
  refine ev_iadd dModel_monthsOf_3 ?_
  refine ev_bipush (30) dModel_monthsOf_4 (by decide) ?_
  refine ev_idiv dModel_monthsOf_6 (by decide) ?_
  exact ev_iret rfl dModel_monthsOf_7 H
