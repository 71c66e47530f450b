/-! Walks of the reference: by program. -/
def fModel_tellMonth_0 (D : va_G) (cA : FieldType → ClassId) (b : Nat) (E : State → Prop) (o : Nat) (n : Nat) (sh : Nat → qC) (Rf : Nat → Nat → Option Nat) (I : Nat → Nat → Int32) (L : Nat → Nat → Int64) (post : Option Value → qS → Prop)  : Prop :=
  Ev (qGG D cA b E) mModel_bounded 5 (0, 0) 0 (lv_args 0 [.ref o, .int ((I o 106)), .int 1]) [] (n, sh, Rf, I, L) (fun v τ => ∃ (r2 : Int32) (I3 : Nat → Nat → Int32) (L4 : Nat → Nat → Int64), v = some (.int r2) ∧ τ = (n, sh, Rf, I3, L4) ∧ ∀ I5 : Nat → Nat → Int32, q_u I3 o 107 r2 = I5 → Ev (qGG D cA b E) mModel_bounded 5 (0, 0) 0 (lv_args 0 [.ref o, .int ((I5 o 106)), .int 2]) [] (n, sh, Rf, I5, L4) (fun v τ => ∃ (r7 : Int32) (I8 : Nat → Nat → Int32) (L9 : Nat → Nat → Int64), v = some (.int r7) ∧ τ = (n, sh, Rf, I8, L9) ∧ ∀ I10 : Nat → Nat → Int32, q_u I8 o 108 r7 = I10 → Ev (qGG D cA b E) mModel_bounded 5 (0, 0) 0 (lv_args 0 [.ref o, .int ((I10 o 106)), .int 3]) [] (n, sh, Rf, I10, L9) (fun v τ => ∃ (r12 : Int32) (I13 : Nat → Nat → Int32) (L14 : Nat → Nat → Int64), v = some (.int r12) ∧ τ = (n, sh, Rf, I13, L14) ∧ ∀ I15 : Nat → Nat → Int32, q_u I13 o 109 r12 = I15 → Ev (qGG D cA b E) mModel_bounded 5 (0, 0) 0 (lv_args 0 [.ref o, .int ((I15 o 106)), .int 4]) [] (n, sh, Rf, I15, L14) (fun v τ => ∃ (r17 : Int32) (I18 : Nat → Nat → Int32) (L19 : Nat → Nat → Int64), v = some (.int r17) ∧ τ = (n, sh, Rf, I18, L19) ∧ ∀ I20 : Nat → Nat → Int32, q_u I18 o 110 r17 = I20 → post none (n, sh, Rf, I20, L19)))))
set_option maxHeartbeats 4000000 in
set_option maxRecDepth 20000 in
theorem sModel_tellMonth_0 {D : va_G} {cA : FieldType → ClassId} {b : Nat} {E : State → Prop} (o : Nat) (n : Nat) (sh : Nat → qC) (Rf : Nat → Nat → Option Nat) (I : Nat → Nat → Int32) (L : Nat → Nat → Int64) (post : Option Value → qS → Prop)  (hok : q_ok (qGG D cA b E)) (hw : WfModel (qGG D cA b E) n sh Rf o) (H : fModel_tellMonth_0 D cA b E o n sh Rf I L post ) : Ev (qGG D cA b E) mModel_tellMonth 6 (0, 0) 0 [(0, .ref o)] [] (n, sh, Rf, I, L) post := by
  unfold fModel_tellMonth_0 at H
  refine ev_aload_n dModel_tellMonth_0 rfl ?_
  refine ev_aload_n dModel_tellMonth_1 rfl ?_
  refine ev_aload_n dModel_tellMonth_2 rfl ?_
  refine ev_getI hok fk_Model_516 (woModel hw) (fun _ _ _ => rfl) dModel_tellMonth_3 ?_
  refine ev_iconst (1) dModel_tellMonth_6 (by decide) ?_
  refine ev_callV [.int ((I o 106)), .int 1] [.ref o] (B' := (0, 0)) (B'' := (0, 0)) hok mmModel_bounded mk_Model_519 (ci := 12) rfl rfl (woModel hw) rfl (Nat.le_of_ble_eq_true rfl) rfl (Nat.le_of_ble_eq_true rfl) dModel_tellMonth_7 rfl (by decide) H (fun v τ p1 => ?_)
  obtain ⟨r2, I3, L4, rfl, rfl, H⟩ := p1
  refine ev_putI hok fk_Model_588 (woModel hw) (fun _ _ _ => rfl) rfl rfl dModel_tellMonth_10 ?_
  generalize eI5 : q_u I3 o 107 r2 = I5
  have H := H I5 eI5
  refine ev_aload_n dModel_tellMonth_13 rfl ?_
  refine ev_aload_n dModel_tellMonth_14 rfl ?_
  refine ev_aload_n dModel_tellMonth_15 rfl ?_
  refine ev_getI hok fk_Model_516 (woModel hw) (fun _ _ _ => rfl) dModel_tellMonth_16 ?_
  refine ev_iconst (2) dModel_tellMonth_19 (by decide) ?_
  refine ev_callV [.int ((I5 o 106)), .int 2] [.ref o] (B' := (0, 0)) (B'' := (0, 0)) hok mmModel_bounded mk_Model_519 (ci := 12) rfl rfl (woModel hw) rfl (Nat.le_of_ble_eq_true rfl) rfl (Nat.le_of_ble_eq_true rfl) dModel_tellMonth_20 rfl (by decide) H (fun v τ p6 => ?_)
  obtain ⟨r7, I8, L9, rfl, rfl, H⟩ := p6
  refine ev_putI hok fk_Model_591 (woModel hw) (fun _ _ _ => rfl) rfl rfl dModel_tellMonth_23 ?_
  generalize eI10 : q_u I8 o 108 r7 = I10
  have H := H I10 eI10
  refine ev_aload_n dModel_tellMonth_26 rfl ?_
  refine ev_aload_n dModel_tellMonth_27 rfl ?_
  refine ev_aload_n dModel_tellMonth_28 rfl ?_
  refine ev_getI hok fk_Model_516 (woModel hw) (fun _ _ _ => rfl) dModel_tellMonth_29 ?_
  refine ev_iconst (3) dModel_tellMonth_32 (by decide) ?_
  refine ev_callV [.int ((I10 o 106)), .int 3] [.ref o] (B' := (0, 0)) (B'' := (0, 0)) hok mmModel_bounded mk_Model_519 (ci := 12) rfl rfl (woModel hw) rfl (Nat.le_of_ble_eq_true rfl) rfl (Nat.le_of_ble_eq_true rfl) dModel_tellMonth_33 rfl (by decide) H (fun v τ p11 => ?_)
  obtain ⟨r12, I13, L14, rfl, rfl, H⟩ := p11
  refine ev_putI hok fk_Model_500 (woModel hw) (fun _ _ _ => rfl) rfl rfl dModel_tellMonth_36 ?_
  generalize eI15 : q_u I13 o 109 r12 = I15
  have H := H I15 eI15
  refine ev_aload_n dModel_tellMonth_39 rfl ?_
  refine ev_aload_n dModel_tellMonth_40 rfl ?_
  refine ev_aload_n dModel_tellMonth_41 rfl ?_
  refine ev_getI hok fk_Model_516 (woModel hw) (fun _ _ _ => rfl) dModel_tellMonth_42 ?_
  refine ev_iconst (4) dModel_tellMonth_45 (by decide) ?_
  refine ev_callV [.int ((I15 o 106)), .int 4] [.ref o] (B' := (0, 0)) (B'' := (0, 0)) hok mmModel_bounded mk_Model_519 (ci := 12) rfl rfl (woModel hw) rfl (Nat.le_of_ble_eq_true rfl) rfl (Nat.le_of_ble_eq_true rfl) dModel_tellMonth_46 rfl (by decide) H (fun v τ p16 => ?_)
  obtain ⟨r17, I18, L19, rfl, rfl, H⟩ := p16
  refine ev_putI hok fk_Model_594 (woModel hw) (fun _ _ _ => rfl) rfl rfl dModel_tellMonth_49 ?_
  generalize eI20 : q_u I18 o 110 r17 = I20
  have H := H I20 eI20
  exact ev_vret rfl dModel_tellMonth_52 H
def fModel_choose_382 (D : va_G) (cA : FieldType → ClassId) (b : Nat) (E : State → Prop) (o : Nat) (n : Nat) (sh : Nat → qC) (Rf : Nat → Nat → Option Nat) (I : Nat → Nat → Int32) (L : Nat → Nat → Int64) (post : Option Value → qS → Prop) (x1 : Int32) (x2 : Int32) : Prop :=
  Ev (qGG D cA b E) mModel_choose 7 (0, 0) 302 [(0, .ref o), (1, .int x1), (2, .int ((x2 + Int32.ofInt 1)))] [] (n, sh, Rf, I, L) post
set_option maxHeartbeats 4000000 in
set_option maxRecDepth 20000 in
theorem sModel_choose_382 {D : va_G} {cA : FieldType → ClassId} {b : Nat} {E : State → Prop} (o : Nat) (n : Nat) (sh : Nat → qC) (Rf : Nat → Nat → Option Nat) (I : Nat → Nat → Int32) (L : Nat → Nat → Int64) (post : Option Value → qS → Prop) (x1 : Int32) (x2 : Int32) (hok : q_ok (qGG D cA b E)) (hw : WfModel (qGG D cA b E) n sh Rf o) (H : fModel_choose_382 D cA b E o n sh Rf I L post x1 x2) : Ev (qGG D cA b E) mModel_choose 7 (0, 0) 382 [(0, .ref o), (1, .int x1), (2, .int x2)] [] (n, sh, Rf, I, L) post := by
  unfold fModel_choose_382 at H
  refine ev_iinc dModel_choose_382 rfl (by decide) ?_
  refine ev_goto 302 dModel_choose_385 (by decide) ?_
  exact ev_sub [(0, .ref o), (1, .int x1), (2, .int ((x2 + Int32.ofInt 1)))] rfl H
def fModel_choose_382_19 (D : va_G) (cA : FieldType → ClassId) (b : Nat) (E : State → Prop) (o : Nat) (n : Nat) (sh : Nat → qC) (Rf : Nat → Nat → Option Nat) (I : Nat → Nat → Int32) (L : Nat → Nat → Int64) (post : Option Value → qS → Prop) (x1 : Int32) (x2 : Int32) (x3 : Int32) : Prop :=
  Ev (qGG D cA b E) mModel_choose 7 (0, 0) 302 [(0, .ref o), (1, .int x1), (2, .int ((x2 + Int32.ofInt 1))), (3, .int x3)] [] (n, sh, Rf, I, L) post
set_option maxHeartbeats 4000000 in
set_option maxRecDepth 20000 in
theorem sModel_choose_382_19 {D : va_G} {cA : FieldType → ClassId} {b : Nat} {E : State → Prop} (o : Nat) (n : Nat) (sh : Nat → qC) (Rf : Nat → Nat → Option Nat) (I : Nat → Nat → Int32) (L : Nat → Nat → Int64) (post : Option Value → qS → Prop) (x1 : Int32) (x2 : Int32) (x3 : Int32) (hok : q_ok (qGG D cA b E)) (hw : WfModel (qGG D cA b E) n sh Rf o) (H : fModel_choose_382_19 D cA b E o n sh Rf I L post x1 x2 x3) : Ev (qGG D cA b E) mModel_choose 7 (0, 0) 382 [(0, .ref o), (1, .int x1), (2, .int x2), (3, .int x3)] [] (n, sh, Rf, I, L) post := by
  unfold fModel_choose_382_19 at H
  refine ev_iinc dModel_choose_382 rfl (by decide) ?_
  refine ev_goto 302 dModel_choose_385 (by decide) ?_
  exact ev_sub [(0, .ref o), (1, .int x1), (2, .int ((x2 + Int32.ofInt 1))), (3, .int x3)] rfl H
def fModel_choose_382_20 (D : va_G) (cA : FieldType → ClassId) (b : Nat) (E : State → Prop) (o : Nat) (n : Nat) (sh : Nat → qC) (Rf : Nat → Nat → Option Nat) (I : Nat → Nat → Int32) (L : Nat → Nat → Int64) (post : Option Value → qS → Prop) (x1 : Int32) (x2 : Int32) (x3 : Int32) (x4 : Int32) (x5 : Int32) : Prop :=
  Ev (qGG D cA b E) mModel_choose 7 (0, 0) 302 [(0, .ref o), (1, .int x1), (2, .int ((x2 + Int32.ofInt 1))), (3, .int x3), (4, .int x4), (5, .int x5)] [] (n, sh, Rf, I, L) post
set_option maxHeartbeats 4000000 in
set_option maxRecDepth 20000 in
theorem sModel_choose_382_20 {D : va_G} {cA : FieldType → ClassId} {b : Nat} {E : State → Prop} (o : Nat) (n : Nat) (sh : Nat → qC) (Rf : Nat → Nat → Option Nat) (I : Nat → Nat → Int32) (L : Nat → Nat → Int64) (post : Option Value → qS → Prop) (x1 : Int32) (x2 : Int32) (x3 : Int32) (x4 : Int32) (x5 : Int32) (hok : q_ok (qGG D cA b E)) (hw : WfModel (qGG D cA b E) n sh Rf o) (H : fModel_choose_382_20 D cA b E o n sh Rf I L post x1 x2 x3 x4 x5) : Ev (qGG D cA b E) mModel_choose 7 (0, 0) 382 [(0, .ref o), (1, .int x1), (2, .int x2), (3, .int x3), (4, .int x4), (5, .int x5)] [] (n, sh, Rf, I, L) post := by
  unfold fModel_choose_382_20 at H
  refine ev_iinc dModel_choose_382 rfl (by decide) ?_
  refine ev_goto 302 dModel_choose_385 (by decide) ?_
  exact ev_sub [(0, .ref o), (1, .int x1), (2, .int ((x2 + Int32.ofInt 1))), (3, .int x3), (4, .int x4), (5, .int x5)] rfl H
def fModel_choose_382_27 (D : va_G) (cA : FieldType → ClassId) (b : Nat) (E : State → Prop) (o : Nat) (n : Nat) (sh : Nat → qC) (Rf : Nat → Nat → Option Nat) (I : Nat → Nat → Int32) (L : Nat → Nat → Int64) (post : Option Value → qS → Prop) (x1 : Int32) (x2 : Int32) (x3 : Int32) (x4 : Int32) (x5 : Int32) (x6 : Int32) (x7 : Int32) : Prop :=
  Ev (qGG D cA b E) mModel_choose 7 (0, 0) 302 [(0, .ref o), (1, .int x1), (2, .int ((x2 + Int32.ofInt 1))), (3, .int x3), (4, .int x4), (5, .int x5), (6, .int x6), (7, .int x7)] [] (n, sh, Rf, I, L) post
set_option maxHeartbeats 4000000 in
set_option maxRecDepth 20000 in
theorem sModel_choose_382_27 {D : va_G} {cA : FieldType → ClassId} {b : Nat} {E : State → Prop} (o : Nat) (n : Nat) (sh : Nat → qC) (Rf : Nat → Nat → Option Nat) (I : Nat → Nat → Int32) (L : Nat → Nat → Int64) (post : Option Value → qS → Prop) (x1 : Int32) (x2 : Int32) (x3 : Int32) (x4 : Int32) (x5 : Int32) (x6 : Int32) (x7 : Int32) (hok : q_ok (qGG D cA b E)) (hw : WfModel (qGG D cA b E) n sh Rf o) (H : fModel_choose_382_27 D cA b E o n sh Rf I L post x1 x2 x3 x4 x5 x6 x7) : Ev (qGG D cA b E) mModel_choose 7 (0, 0) 382 [(0, .ref o), (1, .int x1), (2, .int x2), (3, .int x3), (4, .int x4), (5, .int x5), (6, .int x6), (7, .int x7)] [] (n, sh, Rf, I, L) post := by
  unfold fModel_choose_382_27 at H
  refine ev_iinc dModel_choose_382 rfl (by decide) ?_
  refine ev_goto 302 dModel_choose_385 (by decide) ?_
  exact ev_sub [(0, .ref o), (1, .int x1), (2, .int ((x2 + Int32.ofInt 1))), (3, .int x3), (4, .int x4), (5, .int x5), (6, .int x6), (7, .int x7)] rfl H
def fModel_choose_382_28 (D : va_G) (cA : FieldType → ClassId) (b : Nat) (E : State → Prop) (o : Nat) (n : Nat) (sh : Nat → qC) (Rf : Nat → Nat → Option Nat) (I : Nat → Nat → Int32) (L : Nat → Nat → Int64) (post : Option Value → qS → Prop) (x1 : Int32) (x2 : Int32) (x3 : Int32) (x4 : Int32) : Prop :=
  Ev (qGG D cA b E) mModel_choose 7 (0, 0) 302 [(0, .ref o), (1, .int x1), (2, .int ((x2 + Int32.ofInt 1))), (3, .int x3), (4, .int x4)] [] (n, sh, Rf, I, L) post
set_option maxHeartbeats 4000000 in
set_option maxRecDepth 20000 in
theorem sModel_choose_382_28 {D : va_G} {cA : FieldType → ClassId} {b : Nat} {E : State → Prop} (o : Nat) (n : Nat) (sh : Nat → qC) (Rf : Nat → Nat → Option Nat) (I : Nat → Nat → Int32) (L : Nat → Nat → Int64) (post : Option Value → qS → Prop) (x1 : Int32) (x2 : Int32) (x3 : Int32) (x4 : Int32) (hok : q_ok (qGG D cA b E)) (hw : WfModel (qGG D cA b E) n sh Rf o) (H : fModel_choose_382_28 D cA b E o n sh Rf I L post x1 x2 x3 x4) : Ev (qGG D cA b E) mModel_choose 7 (0, 0) 382 [(0, .ref o), (1, .int x1), (2, .int x2), (3, .int x3), (4, .int x4)] [] (n, sh, Rf, I, L) post := by
  unfold fModel_choose_382_28 at H
  refine ev_iinc dModel_choose_382 rfl (by decide) ?_
  refine ev_goto 302 dModel_choose_385 (by decide) ?_
  exact ev_sub [(0, .ref o), (1, .int x1), (2, .int ((x2 + Int32.ofInt 1))), (3, .int x3), (4, .int x4)] rfl H
def fModel_choose_302 (D : va_G) (cA : FieldType → ClassId) (b : Nat) (E : State → Prop) (o : Nat) (n : Nat) (sh : Nat → qC) (Rf : Nat → Nat → Option Nat) (I : Nat → Nat → Int32) (L : Nat → Nat → Int64) (post : Option Value → qS → Prop) (x1 : Int32) (x2 : Int32) : Prop :=
  Ev (qGG D cA b E) mModel_forts 0 (0, 0) 0 (lv_args 0 [.ref o]) [] (n, sh, Rf, I, L) (fun v τ => ∃ (r2 : Int32) (I3 : Nat → Nat → Int32) (L4 : Nat → Nat → Int64), v = some (.int r2) ∧ τ = (n, sh, Rf, I3, L4) ∧ ((r2 ≤ x2 → (((I3 o 107) ≤ 0 → post none (n, sh, Rf, I3, L4)) ∧ (¬ (I3 o 107) ≤ 0 → Ev (qGG D cA b E) mModel_least 0 (0, 0) 0 (lv_args 0 [.int ((I3 o 70)), .long ((((I3 o 111) / 10) : Int32).toInt64)]) [] (n, sh, Rf, I3, L4) (fun v τ => ∃ (r8 : Int32) (I9 : Nat → Nat → Int32) (L10 : Nat → Nat → Int64), v = some (.int r8) ∧ τ = (n, sh, Rf, I9, L10) ∧ vp_in x1 6 ∧ Ev (qGG D cA b E) mModel_affordable 1 (0, 0) 0 (lv_args 0 [.ref o, .int r8, .long ((L10 (o + 68) (x1 : Int32).toNatClampNeg)), .int ((10 * (I9 o 107)))]) [] (n, sh, Rf, I9, L10) (fun v τ => ∃ (r13 : Int32) (I14 : Nat → Nat → Int32) (L15 : Nat → Nat → Int64), v = some (.int r13) ∧ τ = (n, sh, Rf, I14, L15) ∧ Ev (qGG D cA b E) mModel_weigh 0 (0, 0) 0 (lv_args 0 [.ref o, .int 4, .int ((-1)), .int ((-1)), .int r13, .int 0, .long ((((r13 : Int32).toInt64 * 10) * ((L15 o 121) - ((I14 o 107) : Int32).toInt64)))]) [] (n, sh, Rf, I14, L15) (fun v τ => ∃ (I18 : Nat → Nat → Int32) (L19 : Nat → Nat → Int64), v = none ∧ τ = (n, sh, Rf, I18, L19) ∧ post none (n, sh, Rf, I18, L19))))))) ∧ (¬ r2 ≤ x2 → vp_in ((3 * x1) + x2) 18 ∧ ((0 ≤ (I3 (o + 48) (((3 * x1) + x2) : Int32).toNatClampNeg) → fModel_choose_382 D cA b E o n sh Rf I3 L4 post x1 x2) ∧ (¬ 0 ≤ (I3 (o + 48) (((3 * x1) + x2) : Int32).toNatClampNeg) → vp_in x1 6 ∧ ((0 ≤ (lg_cmp (L4 (o + 68) (x1 : Int32).toNatClampNeg) (((I3 o 72) : Int32).toInt64)) → Ev (qGG D cA b E) mModel_rateFor 6 (0, 0) 0 (lv_args 0 [.ref o, .int x2, .int 0]) [] (n, sh, Rf, I3, L4) (fun v τ => ∃ (r25 : Int32) (I26 : Nat → Nat → Int32) (L27 : Nat → Nat → Int64), v = some (.int r25) ∧ τ = (n, sh, Rf, I26, L27) ∧ Ev (qGG D cA b E) mModel_weigh 0 (0, 0) 0 (lv_args 0 [.ref o, .int 3, .int x2, .int ((-1)), .int 1, .int 0, .long ((((24 * (((r25 : Int32).toInt64 * (L27 o 121)) - ((I26 o 73) : Int32).toInt64)) - ((I26 o 72) : Int32).toInt64) / 24))]) [] (n, sh, Rf, I26, L27) (fun v τ => ∃ (I30 : Nat → Nat → Int32) (L31 : Nat → Nat → Int64), v = none ∧ τ = (n, sh, Rf, I30, L31) ∧ fModel_choose_382 D cA b E o n sh Rf I30 L31 post x1 x2))) ∧ (¬ 0 ≤ (lg_cmp (L4 (o + 68) (x1 : Int32).toNatClampNeg) (((I3 o 72) : Int32).toInt64)) → fModel_choose_382 D cA b E o n sh Rf I3 L4 post x1 x2)))))))
set_option maxHeartbeats 4000000 in
set_option maxRecDepth 20000 in
theorem sModel_choose_302 {D : va_G} {cA : FieldType → ClassId} {b : Nat} {E : State → Prop} (o : Nat) (n : Nat) (sh : Nat → qC) (Rf : Nat → Nat → Option Nat) (I : Nat → Nat → Int32) (L : Nat → Nat → Int64) (post : Option Value → qS → Prop) (x1 : Int32) (x2 : Int32) (hok : q_ok (qGG D cA b E)) (hw : WfModel (qGG D cA b E) n sh Rf o) (H : fModel_choose_302 D cA b E o n sh Rf I L post x1 x2) : Ev (qGG D cA b E) mModel_choose 7 (0, 0) 302 [(0, .ref o), (1, .int x1), (2, .int x2)] [] (n, sh, Rf, I, L) post := by
  unfold fModel_choose_302 at H
  refine ev_iload_n dModel_choose_302 rfl ?_
  refine ev_aload_n dModel_choose_303 rfl ?_
  refine ev_callV [] [.int x2] (B' := (0, 0)) (B'' := (0, 0)) hok mmModel_forts mk_Model_624 (ci := 12) rfl rfl (woModel hw) rfl (Nat.le_of_ble_eq_true rfl) rfl (Nat.le_of_ble_eq_true rfl) dModel_choose_304 rfl (by decide) H (fun v τ p1 => ?_)
  obtain ⟨r2, I3, L4, rfl, rfl, H⟩ := p1
  refine ev_icmp_ge 388 dModel_choose_307 (by decide) (fun c5 => ?_) (fun c5 => ?_)
  · have H := H.1 c5
    refine ev_aload_n dModel_choose_388 rfl ?_
    refine ev_getI hok fk_Model_588 (woModel hw) (fun _ _ _ => rfl) dModel_choose_389 ?_
    refine ev_if_le 454 dModel_choose_392 (by decide) (fun c6 => ?_) (fun c6 => ?_)
    · have H := H.1 c6
      exact ev_vret rfl dModel_choose_454 H
    · have H := H.2 c6
      refine ev_aload_n dModel_choose_395 rfl ?_
      refine ev_aload_n dModel_choose_396 rfl ?_
      refine ev_getI hok fk_Model_400 (woModel hw) (fun _ _ _ => rfl) dModel_choose_397 ?_
      refine ev_aload_n dModel_choose_400 rfl ?_
      refine ev_getI hok fk_Model_680 (woModel hw) (fun _ _ _ => rfl) dModel_choose_401 ?_
      refine ev_bipush (10) dModel_choose_404 (by decide) ?_
      refine ev_idiv dModel_choose_406 (by decide) ?_
      refine ev_i2l dModel_choose_407 ?_
      refine ev_callS [.int ((I3 o 70)), .long ((((I3 o 111) / 10) : Int32).toInt64)] [.ref o] (B' := (0, 0)) (B'' := (0, 0)) hok mmModel_least mk_Model_651 rfl (Nat.le_of_ble_eq_true rfl) rfl (Nat.le_of_ble_eq_true rfl) dModel_choose_408 rfl (by decide) H (fun v τ p7 => ?_)
      obtain ⟨r8, I9, L10, rfl, rfl, H⟩ := p7
      refine ev_aload_n dModel_choose_411 rfl ?_
      refine ev_getR hok fk_Model_578 (woModel hw) (fun _ _ _ => rfl) (wrModel_101 hw) dModel_choose_412 ?_
      refine ev_iload_n dModel_choose_415 rfl ?_
      obtain ⟨h11, H⟩ := H
      refine ev_lald hok (waModel_101 hw) h11 dModel_choose_416 ?_
      refine ev_bipush (10) dModel_choose_417 (by decide) ?_
      refine ev_aload_n dModel_choose_419 rfl ?_
      refine ev_getI hok fk_Model_588 (woModel hw) (fun _ _ _ => rfl) dModel_choose_420 ?_
      refine ev_imul dModel_choose_423 ?_
      refine ev_callV [.int r8, .long ((L10 (o + 68) (x1 : Int32).toNatClampNeg)), .int ((10 * (I9 o 107)))] [] (B' := (0, 0)) (B'' := (0, 0)) hok mmModel_affordable mk_Model_667 (ci := 12) rfl rfl (woModel hw) rfl (Nat.le_of_ble_eq_true rfl) rfl (Nat.le_of_ble_eq_true rfl) dModel_choose_424 rfl (by decide) H (fun v τ p12 => ?_)
      obtain ⟨r13, I14, L15, rfl, rfl, H⟩ := p12
      refine ev_istore_n dModel_choose_427 (by decide) ?_
      refine ev_aload_n dModel_choose_428 rfl ?_
      refine ev_iconst (4) dModel_choose_429 (by decide) ?_
      refine ev_iconst (-1) dModel_choose_430 (by decide) ?_
      refine ev_iconst (-1) dModel_choose_431 (by decide) ?_
      refine ev_iload_n dModel_choose_432 rfl ?_
      refine ev_iconst (0) dModel_choose_433 (by decide) ?_
      refine ev_iload_n dModel_choose_434 rfl ?_
      refine ev_i2l dModel_choose_435 ?_
      refine ev_ldc2 (10) dModel_choose_436 (q_t8 123 (by decide +kernel) rfl) ?_
      refine ev_lmul dModel_choose_439 ?_
      refine ev_aload_n dModel_choose_440 rfl ?_
      refine ev_getL hok fk_Model_506 (woModel hw) (fun _ _ _ => rfl) dModel_choose_441 ?_
      refine ev_aload_n dModel_choose_444 rfl ?_
      refine ev_getI hok fk_Model_588 (woModel hw) (fun _ _ _ => rfl) dModel_choose_445 ?_
      refine ev_i2l dModel_choose_448 ?_
      refine ev_lsub dModel_choose_449 ?_
      refine ev_lmul dModel_choose_450 ?_
      refine ev_callV [.int 4, .int ((-1)), .int ((-1)), .int r13, .int 0, .long ((((r13 : Int32).toInt64 * 10) * ((L15 o 121) - ((I14 o 107) : Int32).toInt64)))] [] (B' := (0, 0)) (B'' := (0, 0)) hok mmModel_weigh mk_Model_674 (ci := 12) rfl rfl (woModel hw) rfl (Nat.le_of_ble_eq_true rfl) rfl (Nat.le_of_ble_eq_true rfl) dModel_choose_451 rfl (by decide) H (fun v τ p16 => ?_)
      obtain ⟨I18, L19, rfl, rfl, H⟩ := p16
      exact ev_vret rfl dModel_choose_454 H
  · have H := H.2 c5
    refine ev_aload_n dModel_choose_310 rfl ?_
    refine ev_getR hok fk_Model_584 (woModel hw) (fun _ _ _ => rfl) (wrModel_81 hw) dModel_choose_311 ?_
    refine ev_iconst (3) dModel_choose_314 (by decide) ?_
    refine ev_iload_n dModel_choose_315 rfl ?_
    refine ev_imul dModel_choose_316 ?_
    refine ev_iload_n dModel_choose_317 rfl ?_
    refine ev_iadd dModel_choose_318 ?_
    obtain ⟨h20, H⟩ := H
    refine ev_iald hok (waModel_81 hw) h20 dModel_choose_319 ?_
    refine ev_if_ge 382 dModel_choose_320 (by decide) (fun c21 => ?_) (fun c21 => ?_)
    · have H := H.1 c21
      exact ev_sub [(0, .ref o), (1, .int x1), (2, .int x2)] rfl (sModel_choose_382 o n sh Rf I3 L4 post x1 x2 hok hw H)
    · have H := H.2 c21
      refine ev_aload_n dModel_choose_323 rfl ?_
      refine ev_getR hok fk_Model_578 (woModel hw) (fun _ _ _ => rfl) (wrModel_101 hw) dModel_choose_324 ?_
      refine ev_iload_n dModel_choose_327 rfl ?_
      obtain ⟨h22, H⟩ := H
      refine ev_lald hok (waModel_101 hw) h22 dModel_choose_328 ?_
      refine ev_aload_n dModel_choose_329 rfl ?_
      refine ev_getI hok fk_Model_406 (woModel hw) (fun _ _ _ => rfl) dModel_choose_330 ?_
      refine ev_i2l dModel_choose_333 ?_
      refine ev_lcmp dModel_choose_334 ?_
      refine ev_if_ge 341 dModel_choose_335 (by decide) (fun c23 => ?_) (fun c23 => ?_)
      · have H := H.1 c23
        refine ev_aload_n dModel_choose_341 rfl ?_
        refine ev_iconst (3) dModel_choose_342 (by decide) ?_
        refine ev_iload_n dModel_choose_343 rfl ?_
        refine ev_iconst (-1) dModel_choose_344 (by decide) ?_
        refine ev_iconst (1) dModel_choose_345 (by decide) ?_
        refine ev_iconst (0) dModel_choose_346 (by decide) ?_
        refine ev_ldc2 (24) dModel_choose_347 (q_t8 122 (by decide +kernel) rfl) ?_
        refine ev_aload_n dModel_choose_350 rfl ?_
        refine ev_iload_n dModel_choose_351 rfl ?_
        refine ev_iconst (0) dModel_choose_352 (by decide) ?_
        refine ev_callV [.int x2, .int 0] [.long 24, .int 0, .int 1, .int ((-1)), .int x2, .int 3, .ref o] (B' := (0, 0)) (B'' := (0, 0)) hok mmModel_rateFor mk_Model_671 (ci := 12) rfl rfl (woModel hw) rfl (Nat.le_of_ble_eq_true rfl) rfl (Nat.le_of_ble_eq_true rfl) dModel_choose_353 rfl (by decide) H (fun v τ p24 => ?_)
        obtain ⟨r25, I26, L27, rfl, rfl, H⟩ := p24
        refine ev_i2l dModel_choose_356 ?_
        refine ev_aload_n dModel_choose_357 rfl ?_
        refine ev_getL hok fk_Model_506 (woModel hw) (fun _ _ _ => rfl) dModel_choose_358 ?_
        refine ev_lmul dModel_choose_361 ?_
        refine ev_aload_n dModel_choose_362 rfl ?_
        refine ev_getI hok fk_Model_409 (woModel hw) (fun _ _ _ => rfl) dModel_choose_363 ?_
        refine ev_i2l dModel_choose_366 ?_
        refine ev_lsub dModel_choose_367 ?_
        refine ev_lmul dModel_choose_368 ?_
        refine ev_aload_n dModel_choose_369 rfl ?_
        refine ev_getI hok fk_Model_406 (woModel hw) (fun _ _ _ => rfl) dModel_choose_370 ?_
        refine ev_i2l dModel_choose_373 ?_
        refine ev_lsub dModel_choose_374 ?_
        refine ev_ldc2 (24) dModel_choose_375 (q_t8 122 (by decide +kernel) rfl) ?_
        refine ev_ldiv dModel_choose_378 (by decide) ?_
        refine ev_callV [.int 3, .int x2, .int ((-1)), .int 1, .int 0, .long ((((24 * (((r25 : Int32).toInt64 * (L27 o 121)) - ((I26 o 73) : Int32).toInt64)) - ((I26 o 72) : Int32).toInt64) / 24))] [] (B' := (0, 0)) (B'' := (0, 0)) hok mmModel_weigh mk_Model_674 (ci := 12) rfl rfl (woModel hw) rfl (Nat.le_of_ble_eq_true rfl) rfl (Nat.le_of_ble_eq_true rfl) dModel_choose_379 rfl (by decide) H (fun v τ p28 => ?_)
        obtain ⟨I30, L31, rfl, rfl, H⟩ := p28
        exact ev_sub [(0, .ref o), (1, .int x1), (2, .int x2)] rfl (sModel_choose_382 o n sh Rf I30 L31 post x1 x2 hok hw H)
      · have H := H.2 c23
        refine ev_goto 382 dModel_choose_338 (by decide) ?_
        exact ev_sub [(0, .ref o), (1, .int x1), (2, .int x2)] rfl (sModel_choose_382 o n sh Rf I3 L4 post x1 x2 hok hw H)
def fModel_choose_302_15 (D : va_G) (cA : FieldType → ClassId) (b : Nat) (E : State → Prop) (o : Nat) (n : Nat) (sh : Nat → qC) (Rf : Nat → Nat → Option Nat) (I : Nat → Nat → Int32) (L : Nat → Nat → Int64) (post : Option Value → qS → Prop) (x1 : Int32) (x2 : Int32) (x3 : Int32) : Prop :=
  Ev (qGG D cA b E) mModel_forts 0 (0, 0) 0 (lv_args 0 [.ref o]) [] (n, sh, Rf, I, L) (fun v τ => ∃ (r2 : Int32) (I3 : Nat → Nat → Int32) (L4 : Nat → Nat → Int64), v = some (.int r2) ∧ τ = (n, sh, Rf, I3, L4) ∧ ((r2 ≤ x2 → (((I3 o 107) ≤ 0 → post none (n, sh, Rf, I3, L4)) ∧ (¬ (I3 o 107) ≤ 0 → Ev (qGG D cA b E) mModel_least 0 (0, 0) 0 (lv_args 0 [.int ((I3 o 70)), .long ((((I3 o 111) / 10) : Int32).toInt64)]) [] (n, sh, Rf, I3, L4) (fun v τ => ∃ (r8 : Int32) (I9 : Nat → Nat → Int32) (L10 : Nat → Nat → Int64), v = some (.int r8) ∧ τ = (n, sh, Rf, I9, L10) ∧ vp_in x1 6 ∧ Ev (qGG D cA b E) mModel_affordable 1 (0, 0) 0 (lv_args 0 [.ref o, .int r8, .long ((L10 (o + 68) (x1 : Int32).toNatClampNeg)), .int ((10 * (I9 o 107)))]) [] (n, sh, Rf, I9, L10) (fun v τ => ∃ (r13 : Int32) (I14 : Nat → Nat → Int32) (L15 : Nat → Nat → Int64), v = some (.int r13) ∧ τ = (n, sh, Rf, I14, L15) ∧ Ev (qGG D cA b E) mModel_weigh 0 (0, 0) 0 (lv_args 0 [.ref o, .int 4, .int ((-1)), .int ((-1)), .int r13, .int 0, .long ((((r13 : Int32).toInt64 * 10) * ((L15 o 121) - ((I14 o 107) : Int32).toInt64)))]) [] (n, sh, Rf, I14, L15) (fun v τ => ∃ (I18 : Nat → Nat → Int32) (L19 : Nat → Nat → Int64), v = none ∧ τ = (n, sh, Rf, I18, L19) ∧ post none (n, sh, Rf, I18, L19))))))) ∧ (¬ r2 ≤ x2 → vp_in ((3 * x1) + x2) 18 ∧ ((0 ≤ (I3 (o + 48) (((3 * x1) + x2) : Int32).toNatClampNeg) → fModel_choose_382_19 D cA b E o n sh Rf I3 L4 post x1 x2 x3) ∧ (¬ 0 ≤ (I3 (o + 48) (((3 * x1) + x2) : Int32).toNatClampNeg) → vp_in x1 6 ∧ ((0 ≤ (lg_cmp (L4 (o + 68) (x1 : Int32).toNatClampNeg) (((I3 o 72) : Int32).toInt64)) → Ev (qGG D cA b E) mModel_rateFor 6 (0, 0) 0 (lv_args 0 [.ref o, .int x2, .int 0]) [] (n, sh, Rf, I3, L4) (fun v τ => ∃ (r25 : Int32) (I26 : Nat → Nat → Int32) (L27 : Nat → Nat → Int64), v = some (.int r25) ∧ τ = (n, sh, Rf, I26, L27) ∧ Ev (qGG D cA b E) mModel_weigh 0 (0, 0) 0 (lv_args 0 [.ref o, .int 3, .int x2, .int ((-1)), .int 1, .int 0, .long ((((24 * (((r25 : Int32).toInt64 * (L27 o 121)) - ((I26 o 73) : Int32).toInt64)) - ((I26 o 72) : Int32).toInt64) / 24))]) [] (n, sh, Rf, I26, L27) (fun v τ => ∃ (I30 : Nat → Nat → Int32) (L31 : Nat → Nat → Int64), v = none ∧ τ = (n, sh, Rf, I30, L31) ∧ fModel_choose_382_19 D cA b E o n sh Rf I30 L31 post x1 x2 x3))) ∧ (¬ 0 ≤ (lg_cmp (L4 (o + 68) (x1 : Int32).toNatClampNeg) (((I3 o 72) : Int32).toInt64)) → fModel_choose_382_19 D cA b E o n sh Rf I3 L4 post x1 x2 x3)))))))
set_option maxHeartbeats 4000000 in
set_option maxRecDepth 20000 in
theorem sModel_choose_302_15 {D : va_G} {cA : FieldType → ClassId} {b : Nat} {E : State → Prop} (o : Nat) (n : Nat) (sh : Nat → qC) (Rf : Nat → Nat → Option Nat) (I : Nat → Nat → Int32) (L : Nat → Nat → Int64) (post : Option Value → qS → Prop) (x1 : Int32) (x2 : Int32) (x3 : Int32) (hok : q_ok (qGG D cA b E)) (hw : WfModel (qGG D cA b E) n sh Rf o) (H : fModel_choose_302_15 D cA b E o n sh Rf I L post x1 x2 x3) : Ev (qGG D cA b E) mModel_choose 7 (0, 0) 302 [(0, .ref o), (1, .int x1), (2, .int x2), (3, .int x3)] [] (n, sh, Rf, I, L) post := by
  unfold fModel_choose_302_15 at H
  refine ev_iload_n dModel_choose_302 rfl ?_
  refine ev_aload_n dModel_choose_303 rfl ?_
  refine ev_callV [] [.int x2] (B' := (0, 0)) (B'' := (0, 0)) hok mmModel_forts mk_Model_624 (ci := 12) rfl rfl (woModel hw) rfl (Nat.le_of_ble_eq_true rfl) rfl (Nat.le_of_ble_eq_true rfl) dModel_choose_304 rfl (by decide) H (fun v τ p1 => ?_)
  obtain ⟨r2, I3, L4, rfl, rfl, H⟩ := p1
  refine ev_icmp_ge 388 dModel_choose_307 (by decide) (fun c5 => ?_) (fun c5 => ?_)
  · have H := H.1 c5
    refine ev_aload_n dModel_choose_388 rfl ?_
    refine ev_getI hok fk_Model_588 (woModel hw) (fun _ _ _ => rfl) dModel_choose_389 ?_
    refine ev_if_le 454 dModel_choose_392 (by decide) (fun c6 => ?_) (fun c6 => ?_)
    · have H := H.1 c6
      exact ev_vret rfl dModel_choose_454 H
    · have H := H.2 c6
      refine ev_aload_n dModel_choose_395 rfl ?_
      refine ev_aload_n dModel_choose_396 rfl ?_
      refine ev_getI hok fk_Model_400 (woModel hw) (fun _ _ _ => rfl) dModel_choose_397 ?_
      refine ev_aload_n dModel_choose_400 rfl ?_
      refine ev_getI hok fk_Model_680 (woModel hw) (fun _ _ _ => rfl) dModel_choose_401 ?_
      refine ev_bipush (10) dModel_choose_404 (by decide) ?_
      refine ev_idiv dModel_choose_406 (by decide) ?_
      refine ev_i2l dModel_choose_407 ?_
      refine ev_callS [.int ((I3 o 70)), .long ((((I3 o 111) / 10) : Int32).toInt64)] [.ref o] (B' := (0, 0)) (B'' := (0, 0)) hok mmModel_least mk_Model_651 rfl (Nat.le_of_ble_eq_true rfl) rfl (Nat.le_of_ble_eq_true rfl) dModel_choose_408 rfl (by decide) H (fun v τ p7 => ?_)
      obtain ⟨r8, I9, L10, rfl, rfl, H⟩ := p7
      refine ev_aload_n dModel_choose_411 rfl ?_
      refine ev_getR hok fk_Model_578 (woModel hw) (fun _ _ _ => rfl) (wrModel_101 hw) dModel_choose_412 ?_
      refine ev_iload_n dModel_choose_415 rfl ?_
      obtain ⟨h11, H⟩ := H
      refine ev_lald hok (waModel_101 hw) h11 dModel_choose_416 ?_
      refine ev_bipush (10) dModel_choose_417 (by decide) ?_
      refine ev_aload_n dModel_choose_419 rfl ?_
      refine ev_getI hok fk_Model_588 (woModel hw) (fun _ _ _ => rfl) dModel_choose_420 ?_
      refine ev_imul dModel_choose_423 ?_
      refine ev_callV [.int r8, .long ((L10 (o + 68) (x1 : Int32).toNatClampNeg)), .int ((10 * (I9 o 107)))] [] (B' := (0, 0)) (B'' := (0, 0)) hok mmModel_affordable mk_Model_667 (ci := 12) rfl rfl (woModel hw) rfl (Nat.le_of_ble_eq_true rfl) rfl (Nat.le_of_ble_eq_true rfl) dModel_choose_424 rfl (by decide) H (fun v τ p12 => ?_)
      obtain ⟨r13, I14, L15, rfl, rfl, H⟩ := p12
      refine ev_istore_n dModel_choose_427 (by decide) ?_
      refine ev_aload_n dModel_choose_428 rfl ?_
      refine ev_iconst (4) dModel_choose_429 (by decide) ?_
      refine ev_iconst (-1) dModel_choose_430 (by decide) ?_
      refine ev_iconst (-1) dModel_choose_431 (by decide) ?_
      refine ev_iload_n dModel_choose_432 rfl ?_
      refine ev_iconst (0) dModel_choose_433 (by decide) ?_
      refine ev_iload_n dModel_choose_434 rfl ?_
      refine ev_i2l dModel_choose_435 ?_
      refine ev_ldc2 (10) dModel_choose_436 (q_t8 123 (by decide +kernel) rfl) ?_
      refine ev_lmul dModel_choose_439 ?_
      refine ev_aload_n dModel_choose_440 rfl ?_
      refine ev_getL hok fk_Model_506 (woModel hw) (fun _ _ _ => rfl) dModel_choose_441 ?_
      refine ev_aload_n dModel_choose_444 rfl ?_
      refine ev_getI hok fk_Model_588 (woModel hw) (fun _ _ _ => rfl) dModel_choose_445 ?_
      refine ev_i2l dModel_choose_448 ?_
      refine ev_lsub dModel_choose_449 ?_
      refine ev_lmul dModel_choose_450 ?_
      refine ev_callV [.int 4, .int ((-1)), .int ((-1)), .int r13, .int 0, .long ((((r13 : Int32).toInt64 * 10) * ((L15 o 121) - ((I14 o 107) : Int32).toInt64)))] [] (B' := (0, 0)) (B'' := (0, 0)) hok mmModel_weigh mk_Model_674 (ci := 12) rfl rfl (woModel hw) rfl (Nat.le_of_ble_eq_true rfl) rfl (Nat.le_of_ble_eq_true rfl) dModel_choose_451 rfl (by decide) H (fun v τ p16 => ?_)
      obtain ⟨I18, L19, rfl, rfl, H⟩ := p16
      exact ev_vret rfl dModel_choose_454 H
  · have H := H.2 c5
    refine ev_aload_n dModel_choose_310 rfl ?_
    refine ev_getR hok fk_Model_584 (woModel hw) (fun _ _ _ => rfl) (wrModel_81 hw) dModel_choose_311 ?_
    refine ev_iconst (3) dModel_choose_314 (by decide) ?_
    refine ev_iload_n dModel_choose_315 rfl ?_
    refine ev_imul dModel_choose_316 ?_
    refine ev_iload_n dModel_choose_317 rfl ?_
    refine ev_iadd dModel_choose_318 ?_
    obtain ⟨h20, H⟩ := H
    refine ev_iald hok (waModel_81 hw) h20 dModel_choose_319 ?_
    refine ev_if_ge 382 dModel_choose_320 (by decide) (fun c21 => ?_) (fun c21 => ?_)
    · have H := H.1 c21
      exact ev_sub [(0, .ref o), (1, .int x1), (2, .int x2), (3, .int x3)] rfl (sModel_choose_382_19 o n sh Rf I3 L4 post x1 x2 x3 hok hw H)
    · have H := H.2 c21
      refine ev_aload_n dModel_choose_323 rfl ?_
      refine ev_getR hok fk_Model_578 (woModel hw) (fun _ _ _ => rfl) (wrModel_101 hw) dModel_choose_324 ?_
      refine ev_iload_n dModel_choose_327 rfl ?_
      obtain ⟨h22, H⟩ := H
      refine ev_lald hok (waModel_101 hw) h22 dModel_choose_328 ?_
      refine ev_aload_n dModel_choose_329 rfl ?_
      refine ev_getI hok fk_Model_406 (woModel hw) (fun _ _ _ => rfl) dModel_choose_330 ?_
      refine ev_i2l dModel_choose_333 ?_
      refine ev_lcmp dModel_choose_334 ?_
      refine ev_if_ge 341 dModel_choose_335 (by decide) (fun c23 => ?_) (fun c23 => ?_)
      · have H := H.1 c23
        refine ev_aload_n dModel_choose_341 rfl ?_
        refine ev_iconst (3) dModel_choose_342 (by decide) ?_
        refine ev_iload_n dModel_choose_343 rfl ?_
        refine ev_iconst (-1) dModel_choose_344 (by decide) ?_
        refine ev_iconst (1) dModel_choose_345 (by decide) ?_
        refine ev_iconst (0) dModel_choose_346 (by decide) ?_
        refine ev_ldc2 (24) dModel_choose_347 (q_t8 122 (by decide +kernel) rfl) ?_
        refine ev_aload_n dModel_choose_350 rfl ?_
        refine ev_iload_n dModel_choose_351 rfl ?_
        refine ev_iconst (0) dModel_choose_352 (by decide) ?_
        refine ev_callV [.int x2, .int 0] [.long 24, .int 0, .int 1, .int ((-1)), .int x2, .int 3, .ref o] (B' := (0, 0)) (B'' := (0, 0)) hok mmModel_rateFor mk_Model_671 (ci := 12) rfl rfl (woModel hw) rfl (Nat.le_of_ble_eq_true rfl) rfl (Nat.le_of_ble_eq_true rfl) dModel_choose_353 rfl (by decide) H (fun v τ p24 => ?_)
        obtain ⟨r25, I26, L27, rfl, rfl, H⟩ := p24
        refine ev_i2l dModel_choose_356 ?_
        refine ev_aload_n dModel_choose_357 rfl ?_
        refine ev_getL hok fk_Model_506 (woModel hw) (fun _ _ _ => rfl) dModel_choose_358 ?_
        refine ev_lmul dModel_choose_361 ?_
        refine ev_aload_n dModel_choose_362 rfl ?_
        refine ev_getI hok fk_Model_409 (woModel hw) (fun _ _ _ => rfl) dModel_choose_363 ?_
        refine ev_i2l dModel_choose_366 ?_
        refine ev_lsub dModel_choose_367 ?_
        refine ev_lmul dModel_choose_368 ?_
        refine ev_aload_n dModel_choose_369 rfl ?_
        refine ev_getI hok fk_Model_406 (woModel hw) (fun _ _ _ => rfl) dModel_choose_370 ?_
        refine ev_i2l dModel_choose_373 ?_
        refine ev_lsub dModel_choose_374 ?_
        refine ev_ldc2 (24) dModel_choose_375 (q_t8 122 (by decide +kernel) rfl) ?_
        refine ev_ldiv dModel_choose_378 (by decide) ?_
        refine ev_callV [.int 3, .int x2, .int ((-1)), .int 1, .int 0, .long ((((24 * (((r25 : Int32).toInt64 * (L27 o 121)) - ((I26 o 73) : Int32).toInt64)) - ((I26 o 72) : Int32).toInt64) / 24))] [] (B' := (0, 0)) (B'' := (0, 0)) hok mmModel_weigh mk_Model_674 (ci := 12) rfl rfl (woModel hw) rfl (Nat.le_of_ble_eq_true rfl) rfl (Nat.le_of_ble_eq_true rfl) dModel_choose_379 rfl (by decide) H (fun v τ p28 => ?_)
        obtain ⟨I30, L31, rfl, rfl, H⟩ := p28
        exact ev_sub [(0, .ref o), (1, .int x1), (2, .int x2), (3, .int x3)] rfl (sModel_choose_382_19 o n sh Rf I30 L31 post x1 x2 x3 hok hw H)
      · have H := H.2 c23
        refine ev_goto 382 dModel_choose_338 (by decide) ?_
        exact ev_sub [(0, .ref o), (1, .int x1), (2, .int x2), (3, .int x3)] rfl (sModel_choose_382_19 o n sh Rf I3 L4 post x1 x2 x3 hok hw H)
def fModel_choose_302_16 (D : va_G) (cA : FieldType → ClassId) (b : Nat) (E : State → Prop) (o : Nat) (n : Nat) (sh : Nat → qC) (Rf : Nat → Nat → Option Nat) (I : Nat → Nat → Int32) (L : Nat → Nat → Int64) (post : Option Value → qS → Prop) (x1 : Int32) (x2 : Int32) (x3 : Int32) (x4 : Int32) (x5 : Int32) : Prop :=
  Ev (qGG D cA b E) mModel_forts 0 (0, 0) 0 (lv_args 0 [.ref o]) [] (n, sh, Rf, I, L) (fun v τ => ∃ (r2 : Int32) (I3 : Nat → Nat → Int32) (L4 : Nat → Nat → Int64), v = some (.int r2) ∧ τ = (n, sh, Rf, I3, L4) ∧ ((r2 ≤ x2 → (((I3 o 107) ≤ 0 → post none (n, sh, Rf, I3, L4)) ∧ (¬ (I3 o 107) ≤ 0 → Ev (qGG D cA b E) mModel_least 0 (0, 0) 0 (lv_args 0 [.int ((I3 o 70)), .long ((((I3 o 111) / 10) : Int32).toInt64)]) [] (n, sh, Rf, I3, L4) (fun v τ => ∃ (r8 : Int32) (I9 : Nat → Nat → Int32) (L10 : Nat → Nat → Int64), v = some (.int r8) ∧ τ = (n, sh, Rf, I9, L10) ∧ vp_in x1 6 ∧ Ev (qGG D cA b E) mModel_affordable 1 (0, 0) 0 (lv_args 0 [.ref o, .int r8, .long ((L10 (o + 68) (x1 : Int32).toNatClampNeg)), .int ((10 * (I9 o 107)))]) [] (n, sh, Rf, I9, L10) (fun v τ => ∃ (r13 : Int32) (I14 : Nat → Nat → Int32) (L15 : Nat → Nat → Int64), v = some (.int r13) ∧ τ = (n, sh, Rf, I14, L15) ∧ Ev (qGG D cA b E) mModel_weigh 0 (0, 0) 0 (lv_args 0 [.ref o, .int 4, .int ((-1)), .int ((-1)), .int r13, .int 0, .long ((((r13 : Int32).toInt64 * 10) * ((L15 o 121) - ((I14 o 107) : Int32).toInt64)))]) [] (n, sh, Rf, I14, L15) (fun v τ => ∃ (I18 : Nat → Nat → Int32) (L19 : Nat → Nat → Int64), v = none ∧ τ = (n, sh, Rf, I18, L19) ∧ post none (n, sh, Rf, I18, L19))))))) ∧ (¬ r2 ≤ x2 → vp_in ((3 * x1) + x2) 18 ∧ ((0 ≤ (I3 (o + 48) (((3 * x1) + x2) : Int32).toNatClampNeg) → fModel_choose_382_20 D cA b E o n sh Rf I3 L4 post x1 x2 x3 x4 x5) ∧ (¬ 0 ≤ (I3 (o + 48) (((3 * x1) + x2) : Int32).toNatClampNeg) → vp_in x1 6 ∧ ((0 ≤ (lg_cmp (L4 (o + 68) (x1 : Int32).toNatClampNeg) (((I3 o 72) : Int32).toInt64)) → Ev (qGG D cA b E) mModel_rateFor 6 (0, 0) 0 (lv_args 0 [.ref o, .int x2, .int 0]) [] (n, sh, Rf, I3, L4) (fun v τ => ∃ (r25 : Int32) (I26 : Nat → Nat → Int32) (L27 : Nat → Nat → Int64), v = some (.int r25) ∧ τ = (n, sh, Rf, I26, L27) ∧ Ev (qGG D cA b E) mModel_weigh 0 (0, 0) 0 (lv_args 0 [.ref o, .int 3, .int x2, .int ((-1)), .int 1, .int 0, .long ((((24 * (((r25 : Int32).toInt64 * (L27 o 121)) - ((I26 o 73) : Int32).toInt64)) - ((I26 o 72) : Int32).toInt64) / 24))]) [] (n, sh, Rf, I26, L27) (fun v τ => ∃ (I30 : Nat → Nat → Int32) (L31 : Nat → Nat → Int64), v = none ∧ τ = (n, sh, Rf, I30, L31) ∧ fModel_choose_382_20 D cA b E o n sh Rf I30 L31 post x1 x2 x3 x4 x5))) ∧ (¬ 0 ≤ (lg_cmp (L4 (o + 68) (x1 : Int32).toNatClampNeg) (((I3 o 72) : Int32).toInt64)) → fModel_choose_382_20 D cA b E o n sh Rf I3 L4 post x1 x2 x3 x4 x5)))))))
set_option maxHeartbeats 4000000 in
set_option maxRecDepth 20000 in
theorem sModel_choose_302_16 {D : va_G} {cA : FieldType → ClassId} {b : Nat} {E : State → Prop} (o : Nat) (n : Nat) (sh : Nat → qC) (Rf : Nat → Nat → Option Nat) (I : Nat → Nat → Int32) (L : Nat → Nat → Int64) (post : Option Value → qS → Prop) (x1 : Int32) (x2 : Int32) (x3 : Int32) (x4 : Int32) (x5 : Int32) (hok : q_ok (qGG D cA b E)) (hw : WfModel (qGG D cA b E) n sh Rf o) (H : fModel_choose_302_16 D cA b E o n sh Rf I L post x1 x2 x3 x4 x5) : Ev (qGG D cA b E) mModel_choose 7 (0, 0) 302 [(0, .ref o), (1, .int x1), (2, .int x2), (3, .int x3), (4, .int x4), (5, .int x5)] [] (n, sh, Rf, I, L) post := by
  unfold fModel_choose_302_16 at H
  refine ev_iload_n dModel_choose_302 rfl ?_
  refine ev_aload_n dModel_choose_303 rfl ?_
  refine ev_callV [] [.int x2] (B' := (0, 0)) (B'' := (0, 0)) hok mmModel_forts mk_Model_624 (ci := 12) rfl rfl (woModel hw) rfl (Nat.le_of_ble_eq_true rfl) rfl (Nat.le_of_ble_eq_true rfl) dModel_choose_304 rfl (by decide) H (fun v τ p1 => ?_)
  obtain ⟨r2, I3, L4, rfl, rfl, H⟩ := p1
  refine ev_icmp_ge 388 dModel_choose_307 (by decide) (fun c5 => ?_) (fun c5 => ?_)
  · have H := H.1 c5
    refine ev_aload_n dModel_choose_388 rfl ?_
    refine ev_getI hok fk_Model_588 (woModel hw) (fun _ _ _ => rfl) dModel_choose_389 ?_
    refine ev_if_le 454 dModel_choose_392 (by decide) (fun c6 => ?_) (fun c6 => ?_)
    · have H := H.1 c6
      exact ev_vret rfl dModel_choose_454 H
    · have H := H.2 c6
      refine ev_aload_n dModel_choose_395 rfl ?_
      refine ev_aload_n dModel_choose_396 rfl ?_
      refine ev_getI hok fk_Model_400 (woModel hw) (fun _ _ _ => rfl) dModel_choose_397 ?_
      refine ev_aload_n dModel_choose_400 rfl ?_
      refine ev_getI hok fk_Model_680 (woModel hw) (fun _ _ _ => rfl) dModel_choose_401 ?_
      refine ev_bipush (10) dModel_choose_404 (by decide) ?_
      refine ev_idiv dModel_choose_406 (by decide) ?_
      refine ev_i2l dModel_choose_407 ?_
      refine ev_callS [.int ((I3 o 70)), .long ((((I3 o 111) / 10) : Int32).toInt64)] [.ref o] (B' := (0, 0)) (B'' := (0, 0)) hok mmModel_least mk_Model_651 rfl (Nat.le_of_ble_eq_true rfl) rfl (Nat.le_of_ble_eq_true rfl) dModel_choose_408 rfl (by decide) H (fun v τ p7 => ?_)
      obtain ⟨r8, I9, L10, rfl, rfl, H⟩ := p7
      refine ev_aload_n dModel_choose_411 rfl ?_
      refine ev_getR hok fk_Model_578 (woModel hw) (fun _ _ _ => rfl) (wrModel_101 hw) dModel_choose_412 ?_
      refine ev_iload_n dModel_choose_415 rfl ?_
      obtain ⟨h11, H⟩ := H
      refine ev_lald hok (waModel_101 hw) h11 dModel_choose_416 ?_
      refine ev_bipush (10) dModel_choose_417 (by decide) ?_
      refine ev_aload_n dModel_choose_419 rfl ?_
      refine ev_getI hok fk_Model_588 (woModel hw) (fun _ _ _ => rfl) dModel_choose_420 ?_
      refine ev_imul dModel_choose_423 ?_
      refine ev_callV [.int r8, .long ((L10 (o + 68) (x1 : Int32).toNatClampNeg)), .int ((10 * (I9 o 107)))] [] (B' := (0, 0)) (B'' := (0, 0)) hok mmModel_affordable mk_Model_667 (ci := 12) rfl rfl (woModel hw) rfl (Nat.le_of_ble_eq_true rfl) rfl (Nat.le_of_ble_eq_true rfl) dModel_choose_424 rfl (by decide) H (fun v τ p12 => ?_)
      obtain ⟨r13, I14, L15, rfl, rfl, H⟩ := p12
      refine ev_istore_n dModel_choose_427 (by decide) ?_
      refine ev_aload_n dModel_choose_428 rfl ?_
      refine ev_iconst (4) dModel_choose_429 (by decide) ?_
      refine ev_iconst (-1) dModel_choose_430 (by decide) ?_
      refine ev_iconst (-1) dModel_choose_431 (by decide) ?_
      refine ev_iload_n dModel_choose_432 rfl ?_
      refine ev_iconst (0) dModel_choose_433 (by decide) ?_
      refine ev_iload_n dModel_choose_434 rfl ?_
      refine ev_i2l dModel_choose_435 ?_
      refine ev_ldc2 (10) dModel_choose_436 (q_t8 123 (by decide +kernel) rfl) ?_
      refine ev_lmul dModel_choose_439 ?_
      refine ev_aload_n dModel_choose_440 rfl ?_
      refine ev_getL hok fk_Model_506 (woModel hw) (fun _ _ _ => rfl) dModel_choose_441 ?_
      refine ev_aload_n dModel_choose_444 rfl ?_
      refine ev_getI hok fk_Model_588 (woModel hw) (fun _ _ _ => rfl) dModel_choose_445 ?_
      refine ev_i2l dModel_choose_448 ?_
      refine ev_lsub dModel_choose_449 ?_
      refine ev_lmul dModel_choose_450 ?_
      refine ev_callV [.int 4, .int ((-1)), .int ((-1)), .int r13, .int 0, .long ((((r13 : Int32).toInt64 * 10) * ((L15 o 121) - ((I14 o 107) : Int32).toInt64)))] [] (B' := (0, 0)) (B'' := (0, 0)) hok mmModel_weigh mk_Model_674 (ci := 12) rfl rfl (woModel hw) rfl (Nat.le_of_ble_eq_true rfl) rfl (Nat.le_of_ble_eq_true rfl) dModel_choose_451 rfl (by decide) H (fun v τ p16 => ?_)
      obtain ⟨I18, L19, rfl, rfl, H⟩ := p16
      exact ev_vret rfl dModel_choose_454 H
  · have H := H.2 c5
    refine ev_aload_n dModel_choose_310 rfl ?_
    refine ev_getR hok fk_Model_584 (woModel hw) (fun _ _ _ => rfl) (wrModel_81 hw) dModel_choose_311 ?_
    refine ev_iconst (3) dModel_choose_314 (by decide) ?_
    refine ev_iload_n dModel_choose_315 rfl ?_
    refine ev_imul dModel_choose_316 ?_
    refine ev_iload_n dModel_choose_317 rfl ?_
    refine ev_iadd dModel_choose_318 ?_
    obtain ⟨h20, H⟩ := H
    refine ev_iald hok (waModel_81 hw) h20 dModel_choose_319 ?_
    refine ev_if_ge 382 dModel_choose_320 (by decide) (fun c21 => ?_) (fun c21 => ?_)
    · have H := H.1 c21
      exact ev_sub [(0, .ref o), (1, .int x1), (2, .int x2), (3, .int x3), (4, .int x4), (5, .int x5)] rfl (sModel_choose_382_20 o n sh Rf I3 L4 post x1 x2 x3 x4 x5 hok hw H)
    · have H := H.2 c21
      refine ev_aload_n dModel_choose_323 rfl ?_
      refine ev_getR hok fk_Model_578 (woModel hw) (fun _ _ _ => rfl) (wrModel_101 hw) dModel_choose_324 ?_
      refine ev_iload_n dModel_choose_327 rfl ?_
      obtain ⟨h22, H⟩ := H
      refine ev_lald hok (waModel_101 hw) h22 dModel_choose_328 ?_
      refine ev_aload_n dModel_choose_329 rfl ?_
      refine ev_getI hok fk_Model_406 (woModel hw) (fun _ _ _ => rfl) dModel_choose_330 ?_
      refine ev_i2l dModel_choose_333 ?_
      refine ev_lcmp dModel_choose_334 ?_
      refine ev_if_ge 341 dModel_choose_335 (by decide) (fun c23 => ?_) (fun c23 => ?_)
      · have H := H.1 c23
        refine ev_aload_n dModel_choose_341 rfl ?_
        refine ev_iconst (3) dModel_choose_342 (by decide) ?_
        refine ev_iload_n dModel_choose_343 rfl ?_
        refine ev_iconst (-1) dModel_choose_344 (by decide) ?_
        refine ev_iconst (1) dModel_choose_345 (by decide) ?_
        refine ev_iconst (0) dModel_choose_346 (by decide) ?_
        refine ev_ldc2 (24) dModel_choose_347 (q_t8 122 (by decide +kernel) rfl) ?_
        refine ev_aload_n dModel_choose_350 rfl ?_
        refine ev_iload_n dModel_choose_351 rfl ?_
        refine ev_iconst (0) dModel_choose_352 (by decide) ?_
        refine ev_callV [.int x2, .int 0] [.long 24, .int 0, .int 1, .int ((-1)), .int x2, .int 3, .ref o] (B' := (0, 0)) (B'' := (0, 0)) hok mmModel_rateFor mk_Model_671 (ci := 12) rfl rfl (woModel hw) rfl (Nat.le_of_ble_eq_true rfl) rfl (Nat.le_of_ble_eq_true rfl) dModel_choose_353 rfl (by decide) H (fun v τ p24 => ?_)
        obtain ⟨r25, I26, L27, rfl, rfl, H⟩ := p24
        refine ev_i2l dModel_choose_356 ?_
        refine ev_aload_n dModel_choose_357 rfl ?_
        refine ev_getL hok fk_Model_506 (woModel hw) (fun _ _ _ => rfl) dModel_choose_358 ?_
        refine ev_lmul dModel_choose_361 ?_
        refine ev_aload_n dModel_choose_362 rfl ?_
        refine ev_getI hok fk_Model_409 (woModel hw) (fun _ _ _ => rfl) dModel_choose_363 ?_
        refine ev_i2l dModel_choose_366 ?_
        refine ev_lsub dModel_choose_367 ?_
        refine ev_lmul dModel_choose_368 ?_
        refine ev_aload_n dModel_choose_369 rfl ?_
        refine ev_getI hok fk_Model_406 (woModel hw) (fun _ _ _ => rfl) dModel_choose_370 ?_
        refine ev_i2l dModel_choose_373 ?_
        refine ev_lsub dModel_choose_374 ?_
        refine ev_ldc2 (24) dModel_choose_375 (q_t8 122 (by decide +kernel) rfl) ?_
        refine ev_ldiv dModel_choose_378 (by decide) ?_
        refine ev_callV [.int 3, .int x2, .int ((-1)), .int 1, .int 0, .long ((((24 * (((r25 : Int32).toInt64 * (L27 o 121)) - ((I26 o 73) : Int32).toInt64)) - ((I26 o 72) : Int32).toInt64) / 24))] [] (B' := (0, 0)) (B'' := (0, 0)) hok mmModel_weigh mk_Model_674 (ci := 12) rfl rfl (woModel hw) rfl (Nat.le_of_ble_eq_true rfl) rfl (Nat.le_of_ble_eq_true rfl) dModel_choose_379 rfl (by decide) H (fun v τ p28 => ?_)
        obtain ⟨I30, L31, rfl, rfl, H⟩ := p28
        exact ev_sub [(0, .ref o), (1, .int x1), (2, .int x2), (3, .int x3), (4, .int x4), (5, .int x5)] rfl (sModel_choose_382_20 o n sh Rf I30 L31 post x1 x2 x3 x4 x5 hok hw H)
      · have H := H.2 c23
        refine ev_goto 382 dModel_choose_338 (by decide) ?_
        exact ev_sub [(0, .ref o), (1, .int x1), (2, .int x2), (3, .int x3), (4, .int x4), (5, .int x5)] rfl (sModel_choose_382_20 o n sh Rf I3 L4 post x1 x2 x3 x4 x5 hok hw H)
def fModel_choose_302_23 (D : va_G) (cA : FieldType → ClassId) (b : Nat) (E : State → Prop) (o : Nat) (n : Nat) (sh : Nat → qC) (Rf : Nat → Nat → Option Nat) (I : Nat → Nat → Int32) (L : Nat → Nat → Int64) (post : Option Value → qS → Prop) (x1 : Int32) (x2 : Int32) (x3 : Int32) (x4 : Int32) (x5 : Int32) (x6 : Int32) (x7 : Int32) : Prop :=
  Ev (qGG D cA b E) mModel_forts 0 (0, 0) 0 (lv_args 0 [.ref o]) [] (n, sh, Rf, I, L) (fun v τ => ∃ (r2 : Int32) (I3 : Nat → Nat → Int32) (L4 : Nat → Nat → Int64), v = some (.int r2) ∧ τ = (n, sh, Rf, I3, L4) ∧ ((r2 ≤ x2 → (((I3 o 107) ≤ 0 → post none (n, sh, Rf, I3, L4)) ∧ (¬ (I3 o 107) ≤ 0 → Ev (qGG D cA b E) mModel_least 0 (0, 0) 0 (lv_args 0 [.int ((I3 o 70)), .long ((((I3 o 111) / 10) : Int32).toInt64)]) [] (n, sh, Rf, I3, L4) (fun v τ => ∃ (r8 : Int32) (I9 : Nat → Nat → Int32) (L10 : Nat → Nat → Int64), v = some (.int r8) ∧ τ = (n, sh, Rf, I9, L10) ∧ vp_in x1 6 ∧ Ev (qGG D cA b E) mModel_affordable 1 (0, 0) 0 (lv_args 0 [.ref o, .int r8, .long ((L10 (o + 68) (x1 : Int32).toNatClampNeg)), .int ((10 * (I9 o 107)))]) [] (n, sh, Rf, I9, L10) (fun v τ => ∃ (r13 : Int32) (I14 : Nat → Nat → Int32) (L15 : Nat → Nat → Int64), v = some (.int r13) ∧ τ = (n, sh, Rf, I14, L15) ∧ Ev (qGG D cA b E) mModel_weigh 0 (0, 0) 0 (lv_args 0 [.ref o, .int 4, .int ((-1)), .int ((-1)), .int r13, .int 0, .long ((((r13 : Int32).toInt64 * 10) * ((L15 o 121) - ((I14 o 107) : Int32).toInt64)))]) [] (n, sh, Rf, I14, L15) (fun v τ => ∃ (I18 : Nat → Nat → Int32) (L19 : Nat → Nat → Int64), v = none ∧ τ = (n, sh, Rf, I18, L19) ∧ post none (n, sh, Rf, I18, L19))))))) ∧ (¬ r2 ≤ x2 → vp_in ((3 * x1) + x2) 18 ∧ ((0 ≤ (I3 (o + 48) (((3 * x1) + x2) : Int32).toNatClampNeg) → fModel_choose_382_27 D cA b E o n sh Rf I3 L4 post x1 x2 x3 x4 x5 x6 x7) ∧ (¬ 0 ≤ (I3 (o + 48) (((3 * x1) + x2) : Int32).toNatClampNeg) → vp_in x1 6 ∧ ((0 ≤ (lg_cmp (L4 (o + 68) (x1 : Int32).toNatClampNeg) (((I3 o 72) : Int32).toInt64)) → Ev (qGG D cA b E) mModel_rateFor 6 (0, 0) 0 (lv_args 0 [.ref o, .int x2, .int 0]) [] (n, sh, Rf, I3, L4) (fun v τ => ∃ (r25 : Int32) (I26 : Nat → Nat → Int32) (L27 : Nat → Nat → Int64), v = some (.int r25) ∧ τ = (n, sh, Rf, I26, L27) ∧ Ev (qGG D cA b E) mModel_weigh 0 (0, 0) 0 (lv_args 0 [.ref o, .int 3, .int x2, .int ((-1)), .int 1, .int 0, .long ((((24 * (((r25 : Int32).toInt64 * (L27 o 121)) - ((I26 o 73) : Int32).toInt64)) - ((I26 o 72) : Int32).toInt64) / 24))]) [] (n, sh, Rf, I26, L27) (fun v τ => ∃ (I30 : Nat → Nat → Int32) (L31 : Nat → Nat → Int64), v = none ∧ τ = (n, sh, Rf, I30, L31) ∧ fModel_choose_382_27 D cA b E o n sh Rf I30 L31 post x1 x2 x3 x4 x5 x6 x7))) ∧ (¬ 0 ≤ (lg_cmp (L4 (o + 68) (x1 : Int32).toNatClampNeg) (((I3 o 72) : Int32).toInt64)) → fModel_choose_382_27 D cA b E o n sh Rf I3 L4 post x1 x2 x3 x4 x5 x6 x7)))))))
set_option maxHeartbeats 4000000 in
set_option maxRecDepth 20000 in
theorem sModel_choose_302_23 {D : va_G} {cA : FieldType → ClassId} {b : Nat} {E : State → Prop} (o : Nat) (n : Nat) (sh : Nat → qC) (Rf : Nat → Nat → Option Nat) (I : Nat → Nat → Int32) (L : Nat → Nat → Int64) (post : Option Value → qS → Prop) (x1 : Int32) (x2 : Int32) (x3 : Int32) (x4 : Int32) (x5 : Int32) (x6 : Int32) (x7 : Int32) (hok : q_ok (qGG D cA b E)) (hw : WfModel (qGG D cA b E) n sh Rf o) (H : fModel_choose_302_23 D cA b E o n sh Rf I L post x1 x2 x3 x4 x5 x6 x7) : Ev (qGG D cA b E) mModel_choose 7 (0, 0) 302 [(0, .ref o), (1, .int x1), (2, .int x2), (3, .int x3), (4, .int x4), (5, .int x5), (6, .int x6), (7, .int x7)] [] (n, sh, Rf, I, L) post := by
  unfold fModel_choose_302_23 at H
  refine ev_iload_n dModel_choose_302 rfl ?_
  refine ev_aload_n dModel_choose_303 rfl ?_
  refine ev_callV [] [.int x2] (B' := (0, 0)) (B'' := (0, 0)) hok mmModel_forts mk_Model_624 (ci := 12) rfl rfl (woModel hw) rfl (Nat.le_of_ble_eq_true rfl) rfl (Nat.le_of_ble_eq_true rfl) dModel_choose_304 rfl (by decide) H (fun v τ p1 => ?_)
  obtain ⟨r2, I3, L4, rfl, rfl, H⟩ := p1
  refine ev_icmp_ge 388 dModel_choose_307 (by decide) (fun c5 => ?_) (fun c5 => ?_)
  · have H := H.1 c5
    refine ev_aload_n dModel_choose_388 rfl ?_
    refine ev_getI hok fk_Model_588 (woModel hw) (fun _ _ _ => rfl) dModel_choose_389 ?_
    refine ev_if_le 454 dModel_choose_392 (by decide) (fun c6 => ?_) (fun c6 => ?_)
    · have H := H.1 c6
      exact ev_vret rfl dModel_choose_454 H
    · have H := H.2 c6
      refine ev_aload_n dModel_choose_395 rfl ?_
      refine ev_aload_n dModel_choose_396 rfl ?_
      refine ev_getI hok fk_Model_400 (woModel hw) (fun _ _ _ => rfl) dModel_choose_397 ?_
      refine ev_aload_n dModel_choose_400 rfl ?_
      refine ev_getI hok fk_Model_680 (woModel hw) (fun _ _ _ => rfl) dModel_choose_401 ?_
      refine ev_bipush (10) dModel_choose_404 (by decide) ?_
      refine ev_idiv dModel_choose_406 (by decide) ?_
      refine ev_i2l dModel_choose_407 ?_
      refine ev_callS [.int ((I3 o 70)), .long ((((I3 o 111) / 10) : Int32).toInt64)] [.ref o] (B' := (0, 0)) (B'' := (0, 0)) hok mmModel_least mk_Model_651 rfl (Nat.le_of_ble_eq_true rfl) rfl (Nat.le_of_ble_eq_true rfl) dModel_choose_408 rfl (by decide) H (fun v τ p7 => ?_)
      obtain ⟨r8, I9, L10, rfl, rfl, H⟩ := p7
      refine ev_aload_n dModel_choose_411 rfl ?_
      refine ev_getR hok fk_Model_578 (woModel hw) (fun _ _ _ => rfl) (wrModel_101 hw) dModel_choose_412 ?_
      refine ev_iload_n dModel_choose_415 rfl ?_
      obtain ⟨h11, H⟩ := H
      refine ev_lald hok (waModel_101 hw) h11 dModel_choose_416 ?_
      refine ev_bipush (10) dModel_choose_417 (by decide) ?_
      refine ev_aload_n dModel_choose_419 rfl ?_
      refine ev_getI hok fk_Model_588 (woModel hw) (fun _ _ _ => rfl) dModel_choose_420 ?_
      refine ev_imul dModel_choose_423 ?_
      refine ev_callV [.int r8, .long ((L10 (o + 68) (x1 : Int32).toNatClampNeg)), .int ((10 * (I9 o 107)))] [] (B' := (0, 0)) (B'' := (0, 0)) hok mmModel_affordable mk_Model_667 (ci := 12) rfl rfl (woModel hw) rfl (Nat.le_of_ble_eq_true rfl) rfl (Nat.le_of_ble_eq_true rfl) dModel_choose_424 rfl (by decide) H (fun v τ p12 => ?_)
      obtain ⟨r13, I14, L15, rfl, rfl, H⟩ := p12
      refine ev_istore_n dModel_choose_427 (by decide) ?_
      refine ev_aload_n dModel_choose_428 rfl ?_
      refine ev_iconst (4) dModel_choose_429 (by decide) ?_
      refine ev_iconst (-1) dModel_choose_430 (by decide) ?_
      refine ev_iconst (-1) dModel_choose_431 (by decide) ?_
      refine ev_iload_n dModel_choose_432 rfl ?_
      refine ev_iconst (0) dModel_choose_433 (by decide) ?_
      refine ev_iload_n dModel_choose_434 rfl ?_
      refine ev_i2l dModel_choose_435 ?_
      refine ev_ldc2 (10) dModel_choose_436 (q_t8 123 (by decide +kernel) rfl) ?_
      refine ev_lmul dModel_choose_439 ?_
      refine ev_aload_n dModel_choose_440 rfl ?_
      refine ev_getL hok fk_Model_506 (woModel hw) (fun _ _ _ => rfl) dModel_choose_441 ?_
      refine ev_aload_n dModel_choose_444 rfl ?_
      refine ev_getI hok fk_Model_588 (woModel hw) (fun _ _ _ => rfl) dModel_choose_445 ?_
      refine ev_i2l dModel_choose_448 ?_
      refine ev_lsub dModel_choose_449 ?_
      refine ev_lmul dModel_choose_450 ?_
      refine ev_callV [.int 4, .int ((-1)), .int ((-1)), .int r13, .int 0, .long ((((r13 : Int32).toInt64 * 10) * ((L15 o 121) - ((I14 o 107) : Int32).toInt64)))] [] (B' := (0, 0)) (B'' := (0, 0)) hok mmModel_weigh mk_Model_674 (ci := 12) rfl rfl (woModel hw) rfl (Nat.le_of_ble_eq_true rfl) rfl (Nat.le_of_ble_eq_true rfl) dModel_choose_451 rfl (by decide) H (fun v τ p16 => ?_)
      obtain ⟨I18, L19, rfl, rfl, H⟩ := p16
      exact ev_vret rfl dModel_choose_454 H
  · have H := H.2 c5
    refine ev_aload_n dModel_choose_310 rfl ?_
    refine ev_getR hok fk_Model_584 (woModel hw) (fun _ _ _ => rfl) (wrModel_81 hw) dModel_choose_311 ?_
    refine ev_iconst (3) dModel_choose_314 (by decide) ?_
    refine ev_iload_n dModel_choose_315 rfl ?_
    refine ev_imul dModel_choose_316 ?_
    refine ev_iload_n dModel_choose_317 rfl ?_
    refine ev_iadd dModel_choose_318 ?_
    obtain ⟨h20, H⟩ := H
    refine ev_iald hok (waModel_81 hw) h20 dModel_choose_319 ?_
    refine ev_if_ge 382 dModel_choose_320 (by decide) (fun c21 => ?_) (fun c21 => ?_)
    · have H := H.1 c21
      exact ev_sub [(0, .ref o), (1, .int x1), (2, .int x2), (3, .int x3), (4, .int x4), (5, .int x5), (6, .int x6), (7, .int x7)] rfl (sModel_choose_382_27 o n sh Rf I3 L4 post x1 x2 x3 x4 x5 x6 x7 hok hw H)
    · have H := H.2 c21
      refine ev_aload_n dModel_choose_323 rfl ?_
      refine ev_getR hok fk_Model_578 (woModel hw) (fun _ _ _ => rfl) (wrModel_101 hw) dModel_choose_324 ?_
      refine ev_iload_n dModel_choose_327 rfl ?_
      obtain ⟨h22, H⟩ := H
      refine ev_lald hok (waModel_101 hw) h22 dModel_choose_328 ?_
      refine ev_aload_n dModel_choose_329 rfl ?_
      refine ev_getI hok fk_Model_406 (woModel hw) (fun _ _ _ => rfl) dModel_choose_330 ?_
      refine ev_i2l dModel_choose_333 ?_
      refine ev_lcmp dModel_choose_334 ?_
      refine ev_if_ge 341 dModel_choose_335 (by decide) (fun c23 => ?_) (fun c23 => ?_)
      · have H := H.1 c23
        refine ev_aload_n dModel_choose_341 rfl ?_
        refine ev_iconst (3) dModel_choose_342 (by decide) ?_
        refine ev_iload_n dModel_choose_343 rfl ?_
        refine ev_iconst (-1) dModel_choose_344 (by decide) ?_
        refine ev_iconst (1) dModel_choose_345 (by decide) ?_
        refine ev_iconst (0) dModel_choose_346 (by decide) ?_
        refine ev_ldc2 (24) dModel_choose_347 (q_t8 122 (by decide +kernel) rfl) ?_
        refine ev_aload_n dModel_choose_350 rfl ?_
        refine ev_iload_n dModel_choose_351 rfl ?_
        refine ev_iconst (0) dModel_choose_352 (by decide) ?_
        refine ev_callV [.int x2, .int 0] [.long 24, .int 0, .int 1, .int ((-1)), .int x2, .int 3, .ref o] (B' := (0, 0)) (B'' := (0, 0)) hok mmModel_rateFor mk_Model_671 (ci := 12) rfl rfl (woModel hw) rfl (Nat.le_of_ble_eq_true rfl) rfl (Nat.le_of_ble_eq_true rfl) dModel_choose_353 rfl (by decide) H (fun v τ p24 => ?_)
        obtain ⟨r25, I26, L27, rfl, rfl, H⟩ := p24
        refine ev_i2l dModel_choose_356 ?_
        refine ev_aload_n dModel_choose_357 rfl ?_
        refine ev_getL hok fk_Model_506 (woModel hw) (fun _ _ _ => rfl) dModel_choose_358 ?_
        refine ev_lmul dModel_choose_361 ?_
        refine ev_aload_n dModel_choose_362 rfl ?_
        refine ev_getI hok fk_Model_409 (woModel hw) (fun _ _ _ => rfl) dModel_choose_363 ?_
        refine ev_i2l dModel_choose_366 ?_
        refine ev_lsub dModel_choose_367 ?_
        refine ev_lmul dModel_choose_368 ?_
        refine ev_aload_n dModel_choose_369 rfl ?_
        refine ev_getI hok fk_Model_406 (woModel hw) (fun _ _ _ => rfl) dModel_choose_370 ?_
        refine ev_i2l dModel_choose_373 ?_
        refine ev_lsub dModel_choose_374 ?_
        refine ev_ldc2 (24) dModel_choose_375 (q_t8 122 (by decide +kernel) rfl) ?_
        refine ev_ldiv dModel_choose_378 (by decide) ?_
        refine ev_callV [.int 3, .int x2, .int ((-1)), .int 1, .int 0, .long ((((24 * (((r25 : Int32).toInt64 * (L27 o 121)) - ((I26 o 73) : Int32).toInt64)) - ((I26 o 72) : Int32).toInt64) / 24))] [] (B' := (0, 0)) (B'' := (0, 0)) hok mmModel_weigh mk_Model_674 (ci := 12) rfl rfl (woModel hw) rfl (Nat.le_of_ble_eq_true rfl) rfl (Nat.le_of_ble_eq_true rfl) dModel_choose_379 rfl (by decide) H (fun v τ p28 => ?_)
        obtain ⟨I30, L31, rfl, rfl, H⟩ := p28
        exact ev_sub [(0, .ref o), (1, .int x1), (2, .int x2), (3, .int x3), (4, .int x4), (5, .int x5), (6, .int x6), (7, .int x7)] rfl (sModel_choose_382_27 o n sh Rf I30 L31 post x1 x2 x3 x4 x5 x6 x7 hok hw H)
      · have H := H.2 c23
        refine ev_goto 382 dModel_choose_338 (by decide) ?_
        exact ev_sub [(0, .ref o), (1, .int x1), (2, .int x2), (3, .int x3), (4, .int x4), (5, .int x5), (6, .int x6), (7, .int x7)] rfl (sModel_choose_382_27 o n sh Rf I3 L4 post x1 x2 x3 x4 x5 x6 x7 hok hw H)
def fModel_choose_302_25 (D : va_G) (cA : FieldType → ClassId) (b : Nat) (E : State → Prop) (o : Nat) (n : Nat) (sh : Nat → qC) (Rf : Nat → Nat → Option Nat) (I : Nat → Nat → Int32) (L : Nat → Nat → Int64) (post : Option Value → qS → Prop) (x1 : Int32) (x2 : Int32) (x3 : Int32) (x4 : Int32) : Prop :=
  Ev (qGG D cA b E) mModel_forts 0 (0, 0) 0 (lv_args 0 [.ref o]) [] (n, sh, Rf, I, L) (fun v τ => ∃ (r2 : Int32) (I3 : Nat → Nat → Int32) (L4 : Nat → Nat → Int64), v = some (.int r2) ∧ τ = (n, sh, Rf, I3, L4) ∧ ((r2 ≤ x2 → (((I3 o 107) ≤ 0 → post none (n, sh, Rf, I3, L4)) ∧ (¬ (I3 o 107) ≤ 0 → Ev (qGG D cA b E) mModel_least 0 (0, 0) 0 (lv_args 0 [.int ((I3 o 70)), .long ((((I3 o 111) / 10) : Int32).toInt64)]) [] (n, sh, Rf, I3, L4) (fun v τ => ∃ (r8 : Int32) (I9 : Nat → Nat → Int32) (L10 : Nat → Nat → Int64), v = some (.int r8) ∧ τ = (n, sh, Rf, I9, L10) ∧ vp_in x1 6 ∧ Ev (qGG D cA b E) mModel_affordable 1 (0, 0) 0 (lv_args 0 [.ref o, .int r8, .long ((L10 (o + 68) (x1 : Int32).toNatClampNeg)), .int ((10 * (I9 o 107)))]) [] (n, sh, Rf, I9, L10) (fun v τ => ∃ (r13 : Int32) (I14 : Nat → Nat → Int32) (L15 : Nat → Nat → Int64), v = some (.int r13) ∧ τ = (n, sh, Rf, I14, L15) ∧ Ev (qGG D cA b E) mModel_weigh 0 (0, 0) 0 (lv_args 0 [.ref o, .int 4, .int ((-1)), .int ((-1)), .int r13, .int 0, .long ((((r13 : Int32).toInt64 * 10) * ((L15 o 121) - ((I14 o 107) : Int32).toInt64)))]) [] (n, sh, Rf, I14, L15) (fun v τ => ∃ (I18 : Nat → Nat → Int32) (L19 : Nat → Nat → Int64), v = none ∧ τ = (n, sh, Rf, I18, L19) ∧ post none (n, sh, Rf, I18, L19))))))) ∧ (¬ r2 ≤ x2 → vp_in ((3 * x1) + x2) 18 ∧ ((0 ≤ (I3 (o + 48) (((3 * x1) + x2) : Int32).toNatClampNeg) → fModel_choose_382_28 D cA b E o n sh Rf I3 L4 post x1 x2 x3 x4) ∧ (¬ 0 ≤ (I3 (o + 48) (((3 * x1) + x2) : Int32).toNatClampNeg) → vp_in x1 6 ∧ ((0 ≤ (lg_cmp (L4 (o + 68) (x1 : Int32).toNatClampNeg) (((I3 o 72) : Int32).toInt64)) → Ev (qGG D cA b E) mModel_rateFor 6 (0, 0) 0 (lv_args 0 [.ref o, .int x2, .int 0]) [] (n, sh, Rf, I3, L4) (fun v τ => ∃ (r25 : Int32) (I26 : Nat → Nat → Int32) (L27 : Nat → Nat → Int64), v = some (.int r25) ∧ τ = (n, sh, Rf, I26, L27) ∧ Ev (qGG D cA b E) mModel_weigh 0 (0, 0) 0 (lv_args 0 [.ref o, .int 3, .int x2, .int ((-1)), .int 1, .int 0, .long ((((24 * (((r25 : Int32).toInt64 * (L27 o 121)) - ((I26 o 73) : Int32).toInt64)) - ((I26 o 72) : Int32).toInt64) / 24))]) [] (n, sh, Rf, I26, L27) (fun v τ => ∃ (I30 : Nat → Nat → Int32) (L31 : Nat → Nat → Int64), v = none ∧ τ = (n, sh, Rf, I30, L31) ∧ fModel_choose_382_28 D cA b E o n sh Rf I30 L31 post x1 x2 x3 x4))) ∧ (¬ 0 ≤ (lg_cmp (L4 (o + 68) (x1 : Int32).toNatClampNeg) (((I3 o 72) : Int32).toInt64)) → fModel_choose_382_28 D cA b E o n sh Rf I3 L4 post x1 x2 x3 x4)))))))
set_option maxHeartbeats 4000000 in
set_option maxRecDepth 20000 in
theorem sModel_choose_302_25 {D : va_G} {cA : FieldType → ClassId} {b : Nat} {E : State → Prop} (o : Nat) (n : Nat) (sh : Nat → qC) (Rf : Nat → Nat → Option Nat) (I : Nat → Nat → Int32) (L : Nat → Nat → Int64) (post : Option Value → qS → Prop) (x1 : Int32) (x2 : Int32) (x3 : Int32) (x4 : Int32) (hok : q_ok (qGG D cA b E)) (hw : WfModel (qGG D cA b E) n sh Rf o) (H : fModel_choose_302_25 D cA b E o n sh Rf I L post x1 x2 x3 x4) : Ev (qGG D cA b E) mModel_choose 7 (0, 0) 302 [(0, .ref o), (1, .int x1), (2, .int x2), (3, .int x3), (4, .int x4)] [] (n, sh, Rf, I, L) post := by
  unfold fModel_choose_302_25 at H
  refine ev_iload_n dModel_choose_302 rfl ?_
  refine ev_aload_n dModel_choose_303 rfl ?_
  refine ev_callV [] [.int x2] (B' := (0, 0)) (B'' := (0, 0)) hok mmModel_forts mk_Model_624 (ci := 12) rfl rfl (woModel hw) rfl (Nat.le_of_ble_eq_true rfl) rfl (Nat.le_of_ble_eq_true rfl) dModel_choose_304 rfl (by decide) H (fun v τ p1 => ?_)
  obtain ⟨r2, I3, L4, rfl, rfl, H⟩ := p1
  refine ev_icmp_ge 388 dModel_choose_307 (by decide) (fun c5 => ?_) (fun c5 => ?_)
  · have H := H.1 c5
    refine ev_aload_n dModel_choose_388 rfl ?_
    refine ev_getI hok fk_Model_588 (woModel hw) (fun _ _ _ => rfl) dModel_choose_389 ?_
    refine ev_if_le 454 dModel_choose_392 (by decide) (fun c6 => ?_) (fun c6 => ?_)
    · have H := H.1 c6
      exact ev_vret rfl dModel_choose_454 H
    · have H := H.2 c6
      refine ev_aload_n dModel_choose_395 rfl ?_
      refine ev_aload_n dModel_choose_396 rfl ?_
      refine ev_getI hok fk_Model_400 (woModel hw) (fun _ _ _ => rfl) dModel_choose_397 ?_
      refine ev_aload_n dModel_choose_400 rfl ?_
      refine ev_getI hok fk_Model_680 (woModel hw) (fun _ _ _ => rfl) dModel_choose_401 ?_
      refine ev_bipush (10) dModel_choose_404 (by decide) ?_
      refine ev_idiv dModel_choose_406 (by decide) ?_
      refine ev_i2l dModel_choose_407 ?_
      refine ev_callS [.int ((I3 o 70)), .long ((((I3 o 111) / 10) : Int32).toInt64)] [.ref o] (B' := (0, 0)) (B'' := (0, 0)) hok mmModel_least mk_Model_651 rfl (Nat.le_of_ble_eq_true rfl) rfl (Nat.le_of_ble_eq_true rfl) dModel_choose_408 rfl (by decide) H (fun v τ p7 => ?_)
      obtain ⟨r8, I9, L10, rfl, rfl, H⟩ := p7
      refine ev_aload_n dModel_choose_411 rfl ?_
      refine ev_getR hok fk_Model_578 (woModel hw) (fun _ _ _ => rfl) (wrModel_101 hw) dModel_choose_412 ?_
      refine ev_iload_n dModel_choose_415 rfl ?_
      obtain ⟨h11, H⟩ := H
      refine ev_lald hok (waModel_101 hw) h11 dModel_choose_416 ?_
      refine ev_bipush (10) dModel_choose_417 (by decide) ?_
      refine ev_aload_n dModel_choose_419 rfl ?_
      refine ev_getI hok fk_Model_588 (woModel hw) (fun _ _ _ => rfl) dModel_choose_420 ?_
      refine ev_imul dModel_choose_423 ?_
      refine ev_callV [.int r8, .long ((L10 (o + 68) (x1 : Int32).toNatClampNeg)), .int ((10 * (I9 o 107)))] [] (B' := (0, 0)) (B'' := (0, 0)) hok mmModel_affordable mk_Model_667 (ci := 12) rfl rfl (woModel hw) rfl (Nat.le_of_ble_eq_true rfl) rfl (Nat.le_of_ble_eq_true rfl) dModel_choose_424 rfl (by decide) H (fun v τ p12 => ?_)
      obtain ⟨r13, I14, L15, rfl, rfl, H⟩ := p12
      refine ev_istore_n dModel_choose_427 (by decide) ?_
      refine ev_aload_n dModel_choose_428 rfl ?_
      refine ev_iconst (4) dModel_choose_429 (by decide) ?_
      refine ev_iconst (-1) dModel_choose_430 (by decide) ?_
      refine ev_iconst (-1) dModel_choose_431 (by decide) ?_
      refine ev_iload_n dModel_choose_432 rfl ?_
      refine ev_iconst (0) dModel_choose_433 (by decide) ?_
      refine ev_iload_n dModel_choose_434 rfl ?_
      refine ev_i2l dModel_choose_435 ?_
      refine ev_ldc2 (10) dModel_choose_436 (q_t8 123 (by decide +kernel) rfl) ?_
      refine ev_lmul dModel_choose_439 ?_
      refine ev_aload_n dModel_choose_440 rfl ?_
      refine ev_getL hok fk_Model_506 (woModel hw) (fun _ _ _ => rfl) dModel_choose_441 ?_
      refine ev_aload_n dModel_choose_444 rfl ?_
      refine ev_getI hok fk_Model_588 (woModel hw) (fun _ _ _ => rfl) dModel_choose_445 ?_
      refine ev_i2l dModel_choose_448 ?_
      refine ev_lsub dModel_choose_449 ?_
      refine ev_lmul dModel_choose_450 ?_
      refine ev_callV [.int 4, .int ((-1)), .int ((-1)), .int r13, .int 0, .long ((((r13 : Int32).toInt64 * 10) * ((L15 o 121) - ((I14 o 107) : Int32).toInt64)))] [] (B' := (0, 0)) (B'' := (0, 0)) hok mmModel_weigh mk_Model_674 (ci := 12) rfl rfl (woModel hw) rfl (Nat.le_of_ble_eq_true rfl) rfl (Nat.le_of_ble_eq_true rfl) dModel_choose_451 rfl (by decide) H (fun v τ p16 => ?_)
      obtain ⟨I18, L19, rfl, rfl, H⟩ := p16
      exact ev_vret rfl dModel_choose_454 H
  · have H := H.2 c5
    refine ev_aload_n dModel_choose_310 rfl ?_
    refine ev_getR hok fk_Model_584 (woModel hw) (fun _ _ _ => rfl) (wrModel_81 hw) dModel_choose_311 ?_
    refine ev_iconst (3) dModel_choose_314 (by decide) ?_
    refine ev_iload_n dModel_choose_315 rfl ?_
    refine ev_imul dModel_choose_316 ?_
    refine ev_iload_n dModel_choose_317 rfl ?_
    refine ev_iadd dModel_choose_318 ?_
    obtain ⟨h20, H⟩ := H
    refine ev_iald hok (waModel_81 hw) h20 dModel_choose_319 ?_
    refine ev_if_ge 382 dModel_choose_320 (by decide) (fun c21 => ?_) (fun c21 => ?_)
    · have H := H.1 c21
      exact ev_sub [(0, .ref o), (1, .int x1), (2, .int x2), (3, .int x3), (4, .int x4)] rfl (sModel_choose_382_28 o n sh Rf I3 L4 post x1 x2 x3 x4 hok hw H)
    · have H := H.2 c21
      refine ev_aload_n dModel_choose_323 rfl ?_
      refine ev_getR hok fk_Model_578 (woModel hw) (fun _ _ _ => rfl) (wrModel_101 hw) dModel_choose_324 ?_
      refine ev_iload_n dModel_choose_327 rfl ?_
      obtain ⟨h22, H⟩ := H
      refine ev_lald hok (waModel_101 hw) h22 dModel_choose_328 ?_
      refine ev_aload_n dModel_choose_329 rfl ?_
      refine ev_getI hok fk_Model_406 (woModel hw) (fun _ _ _ => rfl) dModel_choose_330 ?_
      refine ev_i2l dModel_choose_333 ?_
      refine ev_lcmp dModel_choose_334 ?_
      refine ev_if_ge 341 dModel_choose_335 (by decide) (fun c23 => ?_) (fun c23 => ?_)
      · have H := H.1 c23
        refine ev_aload_n dModel_choose_341 rfl ?_
        refine ev_iconst (3) dModel_choose_342 (by decide) ?_
        refine ev_iload_n dModel_choose_343 rfl ?_
        refine ev_iconst (-1) dModel_choose_344 (by decide) ?_
        refine ev_iconst (1) dModel_choose_345 (by decide) ?_
        refine ev_iconst (0) dModel_choose_346 (by decide) ?_
        refine ev_ldc2 (24) dModel_choose_347 (q_t8 122 (by decide +kernel) rfl) ?_
        refine ev_aload_n dModel_choose_350 rfl ?_
        refine ev_iload_n dModel_choose_351 rfl ?_
        refine ev_iconst (0) dModel_choose_352 (by decide) ?_
        refine ev_callV [.int x2, .int 0] [.long 24, .int 0, .int 1, .int ((-1)), .int x2, .int 3, .ref o] (B' := (0, 0)) (B'' := (0, 0)) hok mmModel_rateFor mk_Model_671 (ci := 12) rfl rfl (woModel hw) rfl (Nat.le_of_ble_eq_true rfl) rfl (Nat.le_of_ble_eq_true rfl) dModel_choose_353 rfl (by decide) H (fun v τ p24 => ?_)
        obtain ⟨r25, I26, L27, rfl, rfl, H⟩ := p24
        refine ev_i2l dModel_choose_356 ?_
        refine ev_aload_n dModel_choose_357 rfl ?_
        refine ev_getL hok fk_Model_506 (woModel hw) (fun _ _ _ => rfl) dModel_choose_358 ?_
        refine ev_lmul dModel_choose_361 ?_
        refine ev_aload_n dModel_choose_362 rfl ?_
        refine ev_getI hok fk_Model_409 (woModel hw) (fun _ _ _ => rfl) dModel_choose_363 ?_
        refine ev_i2l dModel_choose_366 ?_
        refine ev_lsub dModel_choose_367 ?_
        refine ev_lmul dModel_choose_368 ?_
        refine ev_aload_n dModel_choose_369 rfl ?_
        refine ev_getI hok fk_Model_406 (woModel hw) (fun _ _ _ => rfl) dModel_choose_370 ?_
        refine ev_i2l dModel_choose_373 ?_
        refine ev_lsub dModel_choose_374 ?_
        refine ev_ldc2 (24) dModel_choose_375 (q_t8 122 (by decide +kernel) rfl) ?_
        refine ev_ldiv dModel_choose_378 (by decide) ?_
        refine ev_callV [.int 3, .int x2, .int ((-1)), .int 1, .int 0, .long ((((24 * (((r25 : Int32).toInt64 * (L27 o 121)) - ((I26 o 73) : Int32).toInt64)) - ((I26 o 72) : Int32).toInt64) / 24))] [] (B' := (0, 0)) (B'' := (0, 0)) hok mmModel_weigh mk_Model_674 (ci := 12) rfl rfl (woModel hw) rfl (Nat.le_of_ble_eq_true rfl) rfl (Nat.le_of_ble_eq_true rfl) dModel_choose_379 rfl (by decide) H (fun v τ p28 => ?_)
        obtain ⟨I30, L31, rfl, rfl, H⟩ := p28
        exact ev_sub [(0, .ref o), (1, .int x1), (2, .int x2), (3, .int x3), (4, .int x4)] rfl (sModel_choose_382_28 o n sh Rf I30 L31 post x1 x2 x3 x4 hok hw H)
      · have H := H.2 c23
        refine ev_goto 382 dModel_choose_338 (by decide) ?_
        exact ev_sub [(0, .ref o), (1, .int x1), (2, .int x2), (3, .int x3), (4, .int x4)] rfl (sModel_choose_382_28 o n sh Rf I3 L4 post x1 x2 x3 x4 hok hw H)
def fModel_choose_294 (D : va_G) (cA : FieldType → ClassId) (b : Nat) (E : State → Prop) (o : Nat) (n : Nat) (sh : Nat → qC) (Rf : Nat → Nat → Option Nat) (I : Nat → Nat → Int32) (L : Nat → Nat → Int64) (post : Option Value → qS → Prop) (x1 : Int32) (x2 : Int32) (x3 : Int32) : Prop :=
  Ev (qGG D cA b E) mModel_choose 7 (0, 0) 200 [(0, .ref o), (1, .int x1), (2, .int ((x2 + Int32.ofInt 1))), (3, .int x3)] [] (n, sh, Rf, I, L) post
set_option maxHeartbeats 4000000 in
set_option maxRecDepth 20000 in
theorem sModel_choose_294 {D : va_G} {cA : FieldType → ClassId} {b : Nat} {E : State → Prop} (o : Nat) (n : Nat) (sh : Nat → qC) (Rf : Nat → Nat → Option Nat) (I : Nat → Nat → Int32) (L : Nat → Nat → Int64) (post : Option Value → qS → Prop) (x1 : Int32) (x2 : Int32) (x3 : Int32) (hok : q_ok (qGG D cA b E)) (hw : WfModel (qGG D cA b E) n sh Rf o) (H : fModel_choose_294 D cA b E o n sh Rf I L post x1 x2 x3) : Ev (qGG D cA b E) mModel_choose 7 (0, 0) 294 [(0, .ref o), (1, .int x1), (2, .int x2), (3, .int x3)] [] (n, sh, Rf, I, L) post := by
  unfold fModel_choose_294 at H
  refine ev_iinc dModel_choose_294 rfl (by decide) ?_
  refine ev_goto 200 dModel_choose_297 (by decide) ?_
  exact ev_sub [(0, .ref o), (1, .int x1), (2, .int ((x2 + Int32.ofInt 1))), (3, .int x3)] rfl H
def fModel_choose_294_6 (D : va_G) (cA : FieldType → ClassId) (b : Nat) (E : State → Prop) (o : Nat) (n : Nat) (sh : Nat → qC) (Rf : Nat → Nat → Option Nat) (I : Nat → Nat → Int32) (L : Nat → Nat → Int64) (post : Option Value → qS → Prop) (x1 : Int32) (x2 : Int32) (x3 : Int32) (x4 : Int32) (x5 : Int32) : Prop :=
  Ev (qGG D cA b E) mModel_choose 7 (0, 0) 200 [(0, .ref o), (1, .int x1), (2, .int ((x2 + Int32.ofInt 1))), (3, .int x3), (4, .int x4), (5, .int x5)] [] (n, sh, Rf, I, L) post
set_option maxHeartbeats 4000000 in
set_option maxRecDepth 20000 in
theorem sModel_choose_294_6 {D : va_G} {cA : FieldType → ClassId} {b : Nat} {E : State → Prop} (o : Nat) (n : Nat) (sh : Nat → qC) (Rf : Nat → Nat → Option Nat) (I : Nat → Nat → Int32) (L : Nat → Nat → Int64) (post : Option Value → qS → Prop) (x1 : Int32) (x2 : Int32) (x3 : Int32) (x4 : Int32) (x5 : Int32) (hok : q_ok (qGG D cA b E)) (hw : WfModel (qGG D cA b E) n sh Rf o) (H : fModel_choose_294_6 D cA b E o n sh Rf I L post x1 x2 x3 x4 x5) : Ev (qGG D cA b E) mModel_choose 7 (0, 0) 294 [(0, .ref o), (1, .int x1), (2, .int x2), (3, .int x3), (4, .int x4), (5, .int x5)] [] (n, sh, Rf, I, L) post := by
  unfold fModel_choose_294_6 at H
  refine ev_iinc dModel_choose_294 rfl (by decide) ?_
  refine ev_goto 200 dModel_choose_297 (by decide) ?_
  exact ev_sub [(0, .ref o), (1, .int x1), (2, .int ((x2 + Int32.ofInt 1))), (3, .int x3), (4, .int x4), (5, .int x5)] rfl H
def fModel_choose_294_24 (D : va_G) (cA : FieldType → ClassId) (b : Nat) (E : State → Prop) (o : Nat) (n : Nat) (sh : Nat → qC) (Rf : Nat → Nat → Option Nat) (I : Nat → Nat → Int32) (L : Nat → Nat → Int64) (post : Option Value → qS → Prop) (x1 : Int32) (x2 : Int32) (x3 : Int32) (x4 : Int32) (x5 : Int32) (x6 : Int32) (x7 : Int32) : Prop :=
  Ev (qGG D cA b E) mModel_choose 7 (0, 0) 200 [(0, .ref o), (1, .int x1), (2, .int ((x2 + Int32.ofInt 1))), (3, .int x3), (4, .int x4), (5, .int x5), (6, .int x6), (7, .int x7)] [] (n, sh, Rf, I, L) post
set_option maxHeartbeats 4000000 in
set_option maxRecDepth 20000 in
theorem sModel_choose_294_24 {D : va_G} {cA : FieldType → ClassId} {b : Nat} {E : State → Prop} (o : Nat) (n : Nat) (sh : Nat → qC) (Rf : Nat → Nat → Option Nat) (I : Nat → Nat → Int32) (L : Nat → Nat → Int64) (post : Option Value → qS → Prop) (x1 : Int32) (x2 : Int32) (x3 : Int32) (x4 : Int32) (x5 : Int32) (x6 : Int32) (x7 : Int32) (hok : q_ok (qGG D cA b E)) (hw : WfModel (qGG D cA b E) n sh Rf o) (H : fModel_choose_294_24 D cA b E o n sh Rf I L post x1 x2 x3 x4 x5 x6 x7) : Ev (qGG D cA b E) mModel_choose 7 (0, 0) 294 [(0, .ref o), (1, .int x1), (2, .int x2), (3, .int x3), (4, .int x4), (5, .int x5), (6, .int x6), (7, .int x7)] [] (n, sh, Rf, I, L) post := by
  unfold fModel_choose_294_24 at H
  refine ev_iinc dModel_choose_294 rfl (by decide) ?_
  refine ev_goto 200 dModel_choose_297 (by decide) ?_
  exact ev_sub [(0, .ref o), (1, .int x1), (2, .int ((x2 + Int32.ofInt 1))), (3, .int x3), (4, .int x4), (5, .int x5), (6, .int x6), (7, .int x7)] rfl H
def fModel_choose_294_26 (D : va_G) (cA : FieldType → ClassId) (b : Nat) (E : State → Prop) (o : Nat) (n : Nat) (sh : Nat → qC) (Rf : Nat → Nat → Option Nat) (I : Nat → Nat → Int32) (L : Nat → Nat → Int64) (post : Option Value → qS → Prop) (x1 : Int32) (x2 : Int32) (x3 : Int32) (x4 : Int32) : Prop :=
  Ev (qGG D cA b E) mModel_choose 7 (0, 0) 200 [(0, .ref o), (1, .int x1), (2, .int ((x2 + Int32.ofInt 1))), (3, .int x3), (4, .int x4)] [] (n, sh, Rf, I, L) post
set_option maxHeartbeats 4000000 in
set_option maxRecDepth 20000 in
theorem sModel_choose_294_26 {D : va_G} {cA : FieldType → ClassId} {b : Nat} {E : State → Prop} (o : Nat) (n : Nat) (sh : Nat → qC) (Rf : Nat → Nat → Option Nat) (I : Nat → Nat → Int32) (L : Nat → Nat → Int64) (post : Option Value → qS → Prop) (x1 : Int32) (x2 : Int32) (x3 : Int32) (x4 : Int32) (hok : q_ok (qGG D cA b E)) (hw : WfModel (qGG D cA b E) n sh Rf o) (H : fModel_choose_294_26 D cA b E o n sh Rf I L post x1 x2 x3 x4) : Ev (qGG D cA b E) mModel_choose 7 (0, 0) 294 [(0, .ref o), (1, .int x1), (2, .int x2), (3, .int x3), (4, .int x4)] [] (n, sh, Rf, I, L) post := by
  unfold fModel_choose_294_26 at H
  refine ev_iinc dModel_choose_294 rfl (by decide) ?_
  refine ev_goto 200 dModel_choose_297 (by decide) ?_
  exact ev_sub [(0, .ref o), (1, .int x1), (2, .int ((x2 + Int32.ofInt 1))), (3, .int x3), (4, .int x4)] rfl H
def fModel_choose_200 (D : va_G) (cA : FieldType → ClassId) (b : Nat) (E : State → Prop) (o : Nat) (n : Nat) (sh : Nat → qC) (Rf : Nat → Nat → Option Nat) (I : Nat → Nat → Int32) (L : Nat → Nat → Int64) (post : Option Value → qS → Prop) (x1 : Int32) (x2 : Int32) : Prop :=
  Ev (qGG D cA b E) mModel_forts 0 (0, 0) 0 (lv_args 0 [.ref o]) [] (n, sh, Rf, I, L) (fun v τ => ∃ (r2 : Int32) (I3 : Nat → Nat → Int32) (L4 : Nat → Nat → Int64), v = some (.int r2) ∧ τ = (n, sh, Rf, I3, L4) ∧ ((r2 ≤ x2 → Ev (qGG D cA b E) mModel_choose 7 (0, 0) 302 [(0, .ref o), (1, .int x1), (2, .int 0)] [] (n, sh, Rf, I3, L4) post) ∧ (¬ r2 ≤ x2 → vp_in ((3 * x1) + x2) 18 ∧ (((I3 (o + 48) (((3 * x1) + x2) : Int32).toNatClampNeg) < 0 → fModel_choose_294 D cA b E o n sh Rf I3 L4 post x1 x2 (I3 (o + 48) (((3 * x1) + x2) : Int32).toNatClampNeg)) ∧ (¬ (I3 (o + 48) (((3 * x1) + x2) : Int32).toNatClampNeg) < 0 → ((12 ≤ ((I3 o 57) - (I3 (o + 48) (((3 * x1) + x2) : Int32).toNatClampNeg)) → vp_in x1 6 ∧ Ev (qGG D cA b E) mModel_affordable 1 (0, 0) 0 (lv_args 0 [.ref o, .int ((I3 o 70)), .long ((L4 (o + 68) (x1 : Int32).toNatClampNeg)), .int ((I3 o 73))]) [] (n, sh, Rf, I3, L4) (fun v τ => ∃ (r11 : Int32) (I12 : Nat → Nat → Int32) (L13 : Nat → Nat → Int64), v = some (.int r11) ∧ τ = (n, sh, Rf, I12, L13) ∧ Ev (qGG D cA b E) mModel_rateFor 6 (0, 0) 0 (lv_args 0 [.ref o, .int x2, .int 0]) [] (n, sh, Rf, I12, L13) (fun v τ => ∃ (r15 : Int32) (I16 : Nat → Nat → Int32) (L17 : Nat → Nat → Int64), v = some (.int r15) ∧ τ = (n, sh, Rf, I16, L17) ∧ Ev (qGG D cA b E) mModel_weigh 0 (0, 0) 0 (lv_args 0 [.ref o, .int 2, .int x2, .int ((-1)), .int r11, .int r15, .long (((r11 : Int32).toInt64 * (((r15 : Int32).toInt64 * (L17 o 121)) - ((I16 o 73) : Int32).toInt64)))]) [] (n, sh, Rf, I16, L17) (fun v τ => ∃ (I20 : Nat → Nat → Int32) (L21 : Nat → Nat → Int64), v = none ∧ τ = (n, sh, Rf, I20, L21) ∧ fModel_choose_294_6 D cA b E o n sh Rf I20 L21 post x1 x2 (I3 (o + 48) (((3 * x1) + x2) : Int32).toNatClampNeg) r11 r15)))) ∧ (¬ 12 ≤ ((I3 o 57) - (I3 (o + 48) (((3 * x1) + x2) : Int32).toNatClampNeg)) → fModel_choose_294 D cA b E o n sh Rf I3 L4 post x1 x2 (I3 (o + 48) (((3 * x1) + x2) : Int32).toNatClampNeg))))))))
set_option maxHeartbeats 4000000 in
set_option maxRecDepth 20000 in
theorem sModel_choose_200 {D : va_G} {cA : FieldType → ClassId} {b : Nat} {E : State → Prop} (o : Nat) (n : Nat) (sh : Nat → qC) (Rf : Nat → Nat → Option Nat) (I : Nat → Nat → Int32) (L : Nat → Nat → Int64) (post : Option Value → qS → Prop) (x1 : Int32) (x2 : Int32) (hok : q_ok (qGG D cA b E)) (hw : WfModel (qGG D cA b E) n sh Rf o) (H : fModel_choose_200 D cA b E o n sh Rf I L post x1 x2) : Ev (qGG D cA b E) mModel_choose 7 (0, 0) 200 [(0, .ref o), (1, .int x1), (2, .int x2)] [] (n, sh, Rf, I, L) post := by
  unfold fModel_choose_200 at H
  refine ev_iload_n dModel_choose_200 rfl ?_
  refine ev_aload_n dModel_choose_201 rfl ?_
  refine ev_callV [] [.int x2] (B' := (0, 0)) (B'' := (0, 0)) hok mmModel_forts mk_Model_624 (ci := 12) rfl rfl (woModel hw) rfl (Nat.le_of_ble_eq_true rfl) rfl (Nat.le_of_ble_eq_true rfl) dModel_choose_202 rfl (by decide) H (fun v τ p1 => ?_)
  obtain ⟨r2, I3, L4, rfl, rfl, H⟩ := p1
  refine ev_icmp_ge 300 dModel_choose_205 (by decide) (fun c5 => ?_) (fun c5 => ?_)
  · have H := H.1 c5
    refine ev_iconst (0) dModel_choose_300 (by decide) ?_
    refine ev_istore_n dModel_choose_301 (by decide) ?_
    exact ev_sub [(0, .ref o), (1, .int x1), (2, .int 0)] rfl H
  · have H := H.2 c5
    refine ev_aload_n dModel_choose_208 rfl ?_
    refine ev_getR hok fk_Model_584 (woModel hw) (fun _ _ _ => rfl) (wrModel_81 hw) dModel_choose_209 ?_
    refine ev_iconst (3) dModel_choose_212 (by decide) ?_
    refine ev_iload_n dModel_choose_213 rfl ?_
    refine ev_imul dModel_choose_214 ?_
    refine ev_iload_n dModel_choose_215 rfl ?_
    refine ev_iadd dModel_choose_216 ?_
    obtain ⟨h6, H⟩ := H
    refine ev_iald hok (waModel_81 hw) h6 dModel_choose_217 ?_
    refine ev_istore_n dModel_choose_218 (by decide) ?_
    refine ev_iload_n dModel_choose_219 rfl ?_
    refine ev_if_lt 294 dModel_choose_220 (by decide) (fun c7 => ?_) (fun c7 => ?_)
    · have H := H.1 c7
      exact ev_sub [(0, .ref o), (1, .int x1), (2, .int x2), (3, .int ((I3 (o + 48) (((3 * x1) + x2) : Int32).toNatClampNeg)))] rfl (sModel_choose_294 o n sh Rf I3 L4 post x1 x2 (I3 (o + 48) (((3 * x1) + x2) : Int32).toNatClampNeg) hok hw H)
    · have H := H.2 c7
      refine ev_aload_n dModel_choose_223 rfl ?_
      refine ev_getI hok fk_Model_348 (woModel hw) (fun _ _ _ => rfl) dModel_choose_224 ?_
      refine ev_iload_n dModel_choose_227 rfl ?_
      refine ev_isub dModel_choose_228 ?_
      refine ev_bipush (12) dModel_choose_229 (by decide) ?_
      refine ev_icmp_ge 237 dModel_choose_231 (by decide) (fun c8 => ?_) (fun c8 => ?_)
      · have H := H.1 c8
        refine ev_aload_n dModel_choose_237 rfl ?_
        refine ev_aload_n dModel_choose_238 rfl ?_
        refine ev_getI hok fk_Model_400 (woModel hw) (fun _ _ _ => rfl) dModel_choose_239 ?_
        refine ev_aload_n dModel_choose_242 rfl ?_
        refine ev_getR hok fk_Model_578 (woModel hw) (fun _ _ _ => rfl) (wrModel_101 hw) dModel_choose_243 ?_
        refine ev_iload_n dModel_choose_246 rfl ?_
        obtain ⟨h9, H⟩ := H
        refine ev_lald hok (waModel_101 hw) h9 dModel_choose_247 ?_
        refine ev_aload_n dModel_choose_248 rfl ?_
        refine ev_getI hok fk_Model_409 (woModel hw) (fun _ _ _ => rfl) dModel_choose_249 ?_
        refine ev_callV [.int ((I3 o 70)), .long ((L4 (o + 68) (x1 : Int32).toNatClampNeg)), .int ((I3 o 73))] [] (B' := (0, 0)) (B'' := (0, 0)) hok mmModel_affordable mk_Model_667 (ci := 12) rfl rfl (woModel hw) rfl (Nat.le_of_ble_eq_true rfl) rfl (Nat.le_of_ble_eq_true rfl) dModel_choose_252 rfl (by decide) H (fun v τ p10 => ?_)
        obtain ⟨r11, I12, L13, rfl, rfl, H⟩ := p10
        refine ev_istore dModel_choose_255 (by decide) ?_
        refine ev_aload_n dModel_choose_257 rfl ?_
        refine ev_iload_n dModel_choose_258 rfl ?_
        refine ev_iconst (0) dModel_choose_259 (by decide) ?_
        refine ev_callV [.int x2, .int 0] [] (B' := (0, 0)) (B'' := (0, 0)) hok mmModel_rateFor mk_Model_671 (ci := 12) rfl rfl (woModel hw) rfl (Nat.le_of_ble_eq_true rfl) rfl (Nat.le_of_ble_eq_true rfl) dModel_choose_260 rfl (by decide) H (fun v τ p14 => ?_)
        obtain ⟨r15, I16, L17, rfl, rfl, H⟩ := p14
        refine ev_istore dModel_choose_263 (by decide) ?_
        refine ev_aload_n dModel_choose_265 rfl ?_
        refine ev_iconst (2) dModel_choose_266 (by decide) ?_
        refine ev_iload_n dModel_choose_267 rfl ?_
        refine ev_iconst (-1) dModel_choose_268 (by decide) ?_
        refine ev_iload dModel_choose_269 rfl ?_
        refine ev_iload dModel_choose_271 rfl ?_
        refine ev_iload dModel_choose_273 rfl ?_
        refine ev_i2l dModel_choose_275 ?_
        refine ev_iload dModel_choose_276 rfl ?_
        refine ev_i2l dModel_choose_278 ?_
        refine ev_aload_n dModel_choose_279 rfl ?_
        refine ev_getL hok fk_Model_506 (woModel hw) (fun _ _ _ => rfl) dModel_choose_280 ?_
        refine ev_lmul dModel_choose_283 ?_
        refine ev_aload_n dModel_choose_284 rfl ?_
        refine ev_getI hok fk_Model_409 (woModel hw) (fun _ _ _ => rfl) dModel_choose_285 ?_
        refine ev_i2l dModel_choose_288 ?_
        refine ev_lsub dModel_choose_289 ?_
        refine ev_lmul dModel_choose_290 ?_
        refine ev_callV [.int 2, .int x2, .int ((-1)), .int r11, .int r15, .long (((r11 : Int32).toInt64 * (((r15 : Int32).toInt64 * (L17 o 121)) - ((I16 o 73) : Int32).toInt64)))] [] (B' := (0, 0)) (B'' := (0, 0)) hok mmModel_weigh mk_Model_674 (ci := 12) rfl rfl (woModel hw) rfl (Nat.le_of_ble_eq_true rfl) rfl (Nat.le_of_ble_eq_true rfl) dModel_choose_291 rfl (by decide) H (fun v τ p18 => ?_)
        obtain ⟨I20, L21, rfl, rfl, H⟩ := p18
        exact ev_sub [(0, .ref o), (1, .int x1), (2, .int x2), (3, .int ((I3 (o + 48) (((3 * x1) + x2) : Int32).toNatClampNeg))), (4, .int r11), (5, .int r15)] rfl (sModel_choose_294_6 o n sh Rf I20 L21 post x1 x2 (I3 (o + 48) (((3 * x1) + x2) : Int32).toNatClampNeg) r11 r15 hok hw H)
      · have H := H.2 c8
        refine ev_goto 294 dModel_choose_234 (by decide) ?_
        exact ev_sub [(0, .ref o), (1, .int x1), (2, .int x2), (3, .int ((I3 (o + 48) (((3 * x1) + x2) : Int32).toNatClampNeg)))] rfl (sModel_choose_294 o n sh Rf I3 L4 post x1 x2 (I3 (o + 48) (((3 * x1) + x2) : Int32).toNatClampNeg) hok hw H)
def fModel_choose_200_11 (D : va_G) (cA : FieldType → ClassId) (b : Nat) (E : State → Prop) (o : Nat) (n : Nat) (sh : Nat → qC) (Rf : Nat → Nat → Option Nat) (I : Nat → Nat → Int32) (L : Nat → Nat → Int64) (post : Option Value → qS → Prop) (x1 : Int32) (x2 : Int32) (x3 : Int32) : Prop :=
  Ev (qGG D cA b E) mModel_forts 0 (0, 0) 0 (lv_args 0 [.ref o]) [] (n, sh, Rf, I, L) (fun v τ => ∃ (r2 : Int32) (I3 : Nat → Nat → Int32) (L4 : Nat → Nat → Int64), v = some (.int r2) ∧ τ = (n, sh, Rf, I3, L4) ∧ ((r2 ≤ x2 → Ev (qGG D cA b E) mModel_choose 7 (0, 0) 302 [(0, .ref o), (1, .int x1), (2, .int 0), (3, .int x3)] [] (n, sh, Rf, I3, L4) post) ∧ (¬ r2 ≤ x2 → vp_in ((3 * x1) + x2) 18 ∧ (((I3 (o + 48) (((3 * x1) + x2) : Int32).toNatClampNeg) < 0 → fModel_choose_294 D cA b E o n sh Rf I3 L4 post x1 x2 (I3 (o + 48) (((3 * x1) + x2) : Int32).toNatClampNeg)) ∧ (¬ (I3 (o + 48) (((3 * x1) + x2) : Int32).toNatClampNeg) < 0 → ((12 ≤ ((I3 o 57) - (I3 (o + 48) (((3 * x1) + x2) : Int32).toNatClampNeg)) → vp_in x1 6 ∧ Ev (qGG D cA b E) mModel_affordable 1 (0, 0) 0 (lv_args 0 [.ref o, .int ((I3 o 70)), .long ((L4 (o + 68) (x1 : Int32).toNatClampNeg)), .int ((I3 o 73))]) [] (n, sh, Rf, I3, L4) (fun v τ => ∃ (r11 : Int32) (I12 : Nat → Nat → Int32) (L13 : Nat → Nat → Int64), v = some (.int r11) ∧ τ = (n, sh, Rf, I12, L13) ∧ Ev (qGG D cA b E) mModel_rateFor 6 (0, 0) 0 (lv_args 0 [.ref o, .int x2, .int 0]) [] (n, sh, Rf, I12, L13) (fun v τ => ∃ (r15 : Int32) (I16 : Nat → Nat → Int32) (L17 : Nat → Nat → Int64), v = some (.int r15) ∧ τ = (n, sh, Rf, I16, L17) ∧ Ev (qGG D cA b E) mModel_weigh 0 (0, 0) 0 (lv_args 0 [.ref o, .int 2, .int x2, .int ((-1)), .int r11, .int r15, .long (((r11 : Int32).toInt64 * (((r15 : Int32).toInt64 * (L17 o 121)) - ((I16 o 73) : Int32).toInt64)))]) [] (n, sh, Rf, I16, L17) (fun v τ => ∃ (I20 : Nat → Nat → Int32) (L21 : Nat → Nat → Int64), v = none ∧ τ = (n, sh, Rf, I20, L21) ∧ fModel_choose_294_6 D cA b E o n sh Rf I20 L21 post x1 x2 (I3 (o + 48) (((3 * x1) + x2) : Int32).toNatClampNeg) r11 r15)))) ∧ (¬ 12 ≤ ((I3 o 57) - (I3 (o + 48) (((3 * x1) + x2) : Int32).toNatClampNeg)) → fModel_choose_294 D cA b E o n sh Rf I3 L4 post x1 x2 (I3 (o + 48) (((3 * x1) + x2) : Int32).toNatClampNeg))))))))
set_option maxHeartbeats 4000000 in
set_option maxRecDepth 20000 in
theorem sModel_choose_200_11 {D : va_G} {cA : FieldType → ClassId} {b : Nat} {E : State → Prop} (o : Nat) (n : Nat) (sh : Nat → qC) (Rf : Nat → Nat → Option Nat) (I : Nat → Nat → Int32) (L : Nat → Nat → Int64) (post : Option Value → qS → Prop) (x1 : Int32) (x2 : Int32) (x3 : Int32) (hok : q_ok (qGG D cA b E)) (hw : WfModel (qGG D cA b E) n sh Rf o) (H : fModel_choose_200_11 D cA b E o n sh Rf I L post x1 x2 x3) : Ev (qGG D cA b E) mModel_choose 7 (0, 0) 200 [(0, .ref o), (1, .int x1), (2, .int x2), (3, .int x3)] [] (n, sh, Rf, I, L) post := by
  unfold fModel_choose_200_11 at H
  refine ev_iload_n dModel_choose_200 rfl ?_
  refine ev_aload_n dModel_choose_201 rfl ?_
  refine ev_callV [] [.int x2] (B' := (0, 0)) (B'' := (0, 0)) hok mmModel_forts mk_Model_624 (ci := 12) rfl rfl (woModel hw) rfl (Nat.le_of_ble_eq_true rfl) rfl (Nat.le_of_ble_eq_true rfl) dModel_choose_202 rfl (by decide) H (fun v τ p1 => ?_)
  obtain ⟨r2, I3, L4, rfl, rfl, H⟩ := p1
  refine ev_icmp_ge 300 dModel_choose_205 (by decide) (fun c5 => ?_) (fun c5 => ?_)
  · have H := H.1 c5
    refine ev_iconst (0) dModel_choose_300 (by decide) ?_
    refine ev_istore_n dModel_choose_301 (by decide) ?_
    exact ev_sub [(0, .ref o), (1, .int x1), (2, .int 0), (3, .int x3)] rfl H
  · have H := H.2 c5
    refine ev_aload_n dModel_choose_208 rfl ?_
    refine ev_getR hok fk_Model_584 (woModel hw) (fun _ _ _ => rfl) (wrModel_81 hw) dModel_choose_209 ?_
    refine ev_iconst (3) dModel_choose_212 (by decide) ?_
    refine ev_iload_n dModel_choose_213 rfl ?_
    refine ev_imul dModel_choose_214 ?_
    refine ev_iload_n dModel_choose_215 rfl ?_
    refine ev_iadd dModel_choose_216 ?_
    obtain ⟨h6, H⟩ := H
    refine ev_iald hok (waModel_81 hw) h6 dModel_choose_217 ?_
    refine ev_istore_n dModel_choose_218 (by decide) ?_
    refine ev_iload_n dModel_choose_219 rfl ?_
    refine ev_if_lt 294 dModel_choose_220 (by decide) (fun c7 => ?_) (fun c7 => ?_)
    · have H := H.1 c7
      exact ev_sub [(0, .ref o), (1, .int x1), (2, .int x2), (3, .int ((I3 (o + 48) (((3 * x1) + x2) : Int32).toNatClampNeg)))] rfl (sModel_choose_294 o n sh Rf I3 L4 post x1 x2 (I3 (o + 48) (((3 * x1) + x2) : Int32).toNatClampNeg) hok hw H)
    · have H := H.2 c7
      refine ev_aload_n dModel_choose_223 rfl ?_
      refine ev_getI hok fk_Model_348 (woModel hw) (fun _ _ _ => rfl) dModel_choose_224 ?_
      refine ev_iload_n dModel_choose_227 rfl ?_
      refine ev_isub dModel_choose_228 ?_
      refine ev_bipush (12) dModel_choose_229 (by decide) ?_
      refine ev_icmp_ge 237 dModel_choose_231 (by decide) (fun c8 => ?_) (fun c8 => ?_)
      · have H := H.1 c8
        refine ev_aload_n dModel_choose_237 rfl ?_
        refine ev_aload_n dModel_choose_238 rfl ?_
        refine ev_getI hok fk_Model_400 (woModel hw) (fun _ _ _ => rfl) dModel_choose_239 ?_
        refine ev_aload_n dModel_choose_242 rfl ?_
        refine ev_getR hok fk_Model_578 (woModel hw) (fun _ _ _ => rfl) (wrModel_101 hw) dModel_choose_243 ?_
        refine ev_iload_n dModel_choose_246 rfl ?_
        obtain ⟨h9, H⟩ := H
        refine ev_lald hok (waModel_101 hw) h9 dModel_choose_247 ?_
        refine ev_aload_n dModel_choose_248 rfl ?_
        refine ev_getI hok fk_Model_409 (woModel hw) (fun _ _ _ => rfl) dModel_choose_249 ?_
        refine ev_callV [.int ((I3 o 70)), .long ((L4 (o + 68) (x1 : Int32).toNatClampNeg)), .int ((I3 o 73))] [] (B' := (0, 0)) (B'' := (0, 0)) hok mmModel_affordable mk_Model_667 (ci := 12) rfl rfl (woModel hw) rfl (Nat.le_of_ble_eq_true rfl) rfl (Nat.le_of_ble_eq_true rfl) dModel_choose_252 rfl (by decide) H (fun v τ p10 => ?_)
        obtain ⟨r11, I12, L13, rfl, rfl, H⟩ := p10
        refine ev_istore dModel_choose_255 (by decide) ?_
        refine ev_aload_n dModel_choose_257 rfl ?_
        refine ev_iload_n dModel_choose_258 rfl ?_
        refine ev_iconst (0) dModel_choose_259 (by decide) ?_
        refine ev_callV [.int x2, .int 0] [] (B' := (0, 0)) (B'' := (0, 0)) hok mmModel_rateFor mk_Model_671 (ci := 12) rfl rfl (woModel hw) rfl (Nat.le_of_ble_eq_true rfl) rfl (Nat.le_of_ble_eq_true rfl) dModel_choose_260 rfl (by decide) H (fun v τ p14 => ?_)
        obtain ⟨r15, I16, L17, rfl, rfl, H⟩ := p14
        refine ev_istore dModel_choose_263 (by decide) ?_
        refine ev_aload_n dModel_choose_265 rfl ?_
        refine ev_iconst (2) dModel_choose_266 (by decide) ?_
        refine ev_iload_n dModel_choose_267 rfl ?_
        refine ev_iconst (-1) dModel_choose_268 (by decide) ?_
        refine ev_iload dModel_choose_269 rfl ?_
        refine ev_iload dModel_choose_271 rfl ?_
        refine ev_iload dModel_choose_273 rfl ?_
        refine ev_i2l dModel_choose_275 ?_
        refine ev_iload dModel_choose_276 rfl ?_
        refine ev_i2l dModel_choose_278 ?_
        refine ev_aload_n dModel_choose_279 rfl ?_
        refine ev_getL hok fk_Model_506 (woModel hw) (fun _ _ _ => rfl) dModel_choose_280 ?_
        refine ev_lmul dModel_choose_283 ?_
        refine ev_aload_n dModel_choose_284 rfl ?_
        refine ev_getI hok fk_Model_409 (woModel hw) (fun _ _ _ => rfl) dModel_choose_285 ?_
        refine ev_i2l dModel_choose_288 ?_
        refine ev_lsub dModel_choose_289 ?_
        refine ev_lmul dModel_choose_290 ?_
        refine ev_callV [.int 2, .int x2, .int ((-1)), .int r11, .int r15, .long (((r11 : Int32).toInt64 * (((r15 : Int32).toInt64 * (L17 o 121)) - ((I16 o 73) : Int32).toInt64)))] [] (B' := (0, 0)) (B'' := (0, 0)) hok mmModel_weigh mk_Model_674 (ci := 12) rfl rfl (woModel hw) rfl (Nat.le_of_ble_eq_true rfl) rfl (Nat.le_of_ble_eq_true rfl) dModel_choose_291 rfl (by decide) H (fun v τ p18 => ?_)
        obtain ⟨I20, L21, rfl, rfl, H⟩ := p18
        exact ev_sub [(0, .ref o), (1, .int x1), (2, .int x2), (3, .int ((I3 (o + 48) (((3 * x1) + x2) : Int32).toNatClampNeg))), (4, .int r11), (5, .int r15)] rfl (sModel_choose_294_6 o n sh Rf I20 L21 post x1 x2 (I3 (o + 48) (((3 * x1) + x2) : Int32).toNatClampNeg) r11 r15 hok hw H)
      · have H := H.2 c8
        refine ev_goto 294 dModel_choose_234 (by decide) ?_
        exact ev_sub [(0, .ref o), (1, .int x1), (2, .int x2), (3, .int ((I3 (o + 48) (((3 * x1) + x2) : Int32).toNatClampNeg)))] rfl (sModel_choose_294 o n sh Rf I3 L4 post x1 x2 (I3 (o + 48) (((3 * x1) + x2) : Int32).toNatClampNeg) hok hw H)
def fModel_choose_200_12 (D : va_G) (cA : FieldType → ClassId) (b : Nat) (E : State → Prop) (o : Nat) (n : Nat) (sh : Nat → qC) (Rf : Nat → Nat → Option Nat) (I : Nat → Nat → Int32) (L : Nat → Nat → Int64) (post : Option Value → qS → Prop) (x1 : Int32) (x2 : Int32) (x3 : Int32) (x4 : Int32) (x5 : Int32) : Prop :=
  Ev (qGG D cA b E) mModel_forts 0 (0, 0) 0 (lv_args 0 [.ref o]) [] (n, sh, Rf, I, L) (fun v τ => ∃ (r2 : Int32) (I3 : Nat → Nat → Int32) (L4 : Nat → Nat → Int64), v = some (.int r2) ∧ τ = (n, sh, Rf, I3, L4) ∧ ((r2 ≤ x2 → Ev (qGG D cA b E) mModel_choose 7 (0, 0) 302 [(0, .ref o), (1, .int x1), (2, .int 0), (3, .int x3), (4, .int x4), (5, .int x5)] [] (n, sh, Rf, I3, L4) post) ∧ (¬ r2 ≤ x2 → vp_in ((3 * x1) + x2) 18 ∧ (((I3 (o + 48) (((3 * x1) + x2) : Int32).toNatClampNeg) < 0 → fModel_choose_294_6 D cA b E o n sh Rf I3 L4 post x1 x2 (I3 (o + 48) (((3 * x1) + x2) : Int32).toNatClampNeg) x4 x5) ∧ (¬ (I3 (o + 48) (((3 * x1) + x2) : Int32).toNatClampNeg) < 0 → ((12 ≤ ((I3 o 57) - (I3 (o + 48) (((3 * x1) + x2) : Int32).toNatClampNeg)) → vp_in x1 6 ∧ Ev (qGG D cA b E) mModel_affordable 1 (0, 0) 0 (lv_args 0 [.ref o, .int ((I3 o 70)), .long ((L4 (o + 68) (x1 : Int32).toNatClampNeg)), .int ((I3 o 73))]) [] (n, sh, Rf, I3, L4) (fun v τ => ∃ (r11 : Int32) (I12 : Nat → Nat → Int32) (L13 : Nat → Nat → Int64), v = some (.int r11) ∧ τ = (n, sh, Rf, I12, L13) ∧ Ev (qGG D cA b E) mModel_rateFor 6 (0, 0) 0 (lv_args 0 [.ref o, .int x2, .int 0]) [] (n, sh, Rf, I12, L13) (fun v τ => ∃ (r15 : Int32) (I16 : Nat → Nat → Int32) (L17 : Nat → Nat → Int64), v = some (.int r15) ∧ τ = (n, sh, Rf, I16, L17) ∧ Ev (qGG D cA b E) mModel_weigh 0 (0, 0) 0 (lv_args 0 [.ref o, .int 2, .int x2, .int ((-1)), .int r11, .int r15, .long (((r11 : Int32).toInt64 * (((r15 : Int32).toInt64 * (L17 o 121)) - ((I16 o 73) : Int32).toInt64)))]) [] (n, sh, Rf, I16, L17) (fun v τ => ∃ (I20 : Nat → Nat → Int32) (L21 : Nat → Nat → Int64), v = none ∧ τ = (n, sh, Rf, I20, L21) ∧ fModel_choose_294_6 D cA b E o n sh Rf I20 L21 post x1 x2 (I3 (o + 48) (((3 * x1) + x2) : Int32).toNatClampNeg) r11 r15)))) ∧ (¬ 12 ≤ ((I3 o 57) - (I3 (o + 48) (((3 * x1) + x2) : Int32).toNatClampNeg)) → fModel_choose_294_6 D cA b E o n sh Rf I3 L4 post x1 x2 (I3 (o + 48) (((3 * x1) + x2) : Int32).toNatClampNeg) x4 x5)))))))
set_option maxHeartbeats 4000000 in
set_option maxRecDepth 20000 in
theorem sModel_choose_200_12 {D : va_G} {cA : FieldType → ClassId} {b : Nat} {E : State → Prop} (o : Nat) (n : Nat) (sh : Nat → qC) (Rf : Nat → Nat → Option Nat) (I : Nat → Nat → Int32) (L : Nat → Nat → Int64) (post : Option Value → qS → Prop) (x1 : Int32) (x2 : Int32) (x3 : Int32) (x4 : Int32) (x5 : Int32) (hok : q_ok (qGG D cA b E)) (hw : WfModel (qGG D cA b E) n sh Rf o) (H : fModel_choose_200_12 D cA b E o n sh Rf I L post x1 x2 x3 x4 x5) : Ev (qGG D cA b E) mModel_choose 7 (0, 0) 200 [(0, .ref o), (1, .int x1), (2, .int x2), (3, .int x3), (4, .int x4), (5, .int x5)] [] (n, sh, Rf, I, L) post := by
  unfold fModel_choose_200_12 at H
  refine ev_iload_n dModel_choose_200 rfl ?_
  refine ev_aload_n dModel_choose_201 rfl ?_
  refine ev_callV [] [.int x2] (B' := (0, 0)) (B'' := (0, 0)) hok mmModel_forts mk_Model_624 (ci := 12) rfl rfl (woModel hw) rfl (Nat.le_of_ble_eq_true rfl) rfl (Nat.le_of_ble_eq_true rfl) dModel_choose_202 rfl (by decide) H (fun v τ p1 => ?_)
  obtain ⟨r2, I3, L4, rfl, rfl, H⟩ := p1
  refine ev_icmp_ge 300 dModel_choose_205 (by decide) (fun c5 => ?_) (fun c5 => ?_)
  · have H := H.1 c5
    refine ev_iconst (0) dModel_choose_300 (by decide) ?_
    refine ev_istore_n dModel_choose_301 (by decide) ?_
    exact ev_sub [(0, .ref o), (1, .int x1), (2, .int 0), (3, .int x3), (4, .int x4), (5, .int x5)] rfl H
  · have H := H.2 c5
    refine ev_aload_n dModel_choose_208 rfl ?_
    refine ev_getR hok fk_Model_584 (woModel hw) (fun _ _ _ => rfl) (wrModel_81 hw) dModel_choose_209 ?_
    refine ev_iconst (3) dModel_choose_212 (by decide) ?_
    refine ev_iload_n dModel_choose_213 rfl ?_
    refine ev_imul dModel_choose_214 ?_
    refine ev_iload_n dModel_choose_215 rfl ?_
    refine ev_iadd dModel_choose_216 ?_
    obtain ⟨h6, H⟩ := H
    refine ev_iald hok (waModel_81 hw) h6 dModel_choose_217 ?_
    refine ev_istore_n dModel_choose_218 (by decide) ?_
    refine ev_iload_n dModel_choose_219 rfl ?_
    refine ev_if_lt 294 dModel_choose_220 (by decide) (fun c7 => ?_) (fun c7 => ?_)
    · have H := H.1 c7
      exact ev_sub [(0, .ref o), (1, .int x1), (2, .int x2), (3, .int ((I3 (o + 48) (((3 * x1) + x2) : Int32).toNatClampNeg))), (4, .int x4), (5, .int x5)] rfl (sModel_choose_294_6 o n sh Rf I3 L4 post x1 x2 (I3 (o + 48) (((3 * x1) + x2) : Int32).toNatClampNeg) x4 x5 hok hw H)
    · have H := H.2 c7
      refine ev_aload_n dModel_choose_223 rfl ?_
      refine ev_getI hok fk_Model_348 (woModel hw) (fun _ _ _ => rfl) dModel_choose_224 ?_
      refine ev_iload_n dModel_choose_227 rfl ?_
      refine ev_isub dModel_choose_228 ?_
      refine ev_bipush (12) dModel_choose_229 (by decide) ?_
      refine ev_icmp_ge 237 dModel_choose_231 (by decide) (fun c8 => ?_) (fun c8 => ?_)
      · have H := H.1 c8
        refine ev_aload_n dModel_choose_237 rfl ?_
        refine ev_aload_n dModel_choose_238 rfl ?_
        refine ev_getI hok fk_Model_400 (woModel hw) (fun _ _ _ => rfl) dModel_choose_239 ?_
        refine ev_aload_n dModel_choose_242 rfl ?_
        refine ev_getR hok fk_Model_578 (woModel hw) (fun _ _ _ => rfl) (wrModel_101 hw) dModel_choose_243 ?_
        refine ev_iload_n dModel_choose_246 rfl ?_
        obtain ⟨h9, H⟩ := H
        refine ev_lald hok (waModel_101 hw) h9 dModel_choose_247 ?_
        refine ev_aload_n dModel_choose_248 rfl ?_
        refine ev_getI hok fk_Model_409 (woModel hw) (fun _ _ _ => rfl) dModel_choose_249 ?_
        refine ev_callV [.int ((I3 o 70)), .long ((L4 (o + 68) (x1 : Int32).toNatClampNeg)), .int ((I3 o 73))] [] (B' := (0, 0)) (B'' := (0, 0)) hok mmModel_affordable mk_Model_667 (ci := 12) rfl rfl (woModel hw) rfl (Nat.le_of_ble_eq_true rfl) rfl (Nat.le_of_ble_eq_true rfl) dModel_choose_252 rfl (by decide) H (fun v τ p10 => ?_)
        obtain ⟨r11, I12, L13, rfl, rfl, H⟩ := p10
        refine ev_istore dModel_choose_255 (by decide) ?_
        refine ev_aload_n dModel_choose_257 rfl ?_
        refine ev_iload_n dModel_choose_258 rfl ?_
        refine ev_iconst (0) dModel_choose_259 (by decide) ?_
        refine ev_callV [.int x2, .int 0] [] (B' := (0, 0)) (B'' := (0, 0)) hok mmModel_rateFor mk_Model_671 (ci := 12) rfl rfl (woModel hw) rfl (Nat.le_of_ble_eq_true rfl) rfl (Nat.le_of_ble_eq_true rfl) dModel_choose_260 rfl (by decide) H (fun v τ p14 => ?_)
        obtain ⟨r15, I16, L17, rfl, rfl, H⟩ := p14
        refine ev_istore dModel_choose_263 (by decide) ?_
        refine ev_aload_n dModel_choose_265 rfl ?_
        refine ev_iconst (2) dModel_choose_266 (by decide) ?_
        refine ev_iload_n dModel_choose_267 rfl ?_
        refine ev_iconst (-1) dModel_choose_268 (by decide) ?_
        refine ev_iload dModel_choose_269 rfl ?_
        refine ev_iload dModel_choose_271 rfl ?_
        refine ev_iload dModel_choose_273 rfl ?_
        refine ev_i2l dModel_choose_275 ?_
        refine ev_iload dModel_choose_276 rfl ?_
        refine ev_i2l dModel_choose_278 ?_
        refine ev_aload_n dModel_choose_279 rfl ?_
        refine ev_getL hok fk_Model_506 (woModel hw) (fun _ _ _ => rfl) dModel_choose_280 ?_
        refine ev_lmul dModel_choose_283 ?_
        refine ev_aload_n dModel_choose_284 rfl ?_
        refine ev_getI hok fk_Model_409 (woModel hw) (fun _ _ _ => rfl) dModel_choose_285 ?_
        refine ev_i2l dModel_choose_288 ?_
        refine ev_lsub dModel_choose_289 ?_
        refine ev_lmul dModel_choose_290 ?_
        refine ev_callV [.int 2, .int x2, .int ((-1)), .int r11, .int r15, .long (((r11 : Int32).toInt64 * (((r15 : Int32).toInt64 * (L17 o 121)) - ((I16 o 73) : Int32).toInt64)))] [] (B' := (0, 0)) (B'' := (0, 0)) hok mmModel_weigh mk_Model_674 (ci := 12) rfl rfl (woModel hw) rfl (Nat.le_of_ble_eq_true rfl) rfl (Nat.le_of_ble_eq_true rfl) dModel_choose_291 rfl (by decide) H (fun v τ p18 => ?_)
        obtain ⟨I20, L21, rfl, rfl, H⟩ := p18
        exact ev_sub [(0, .ref o), (1, .int x1), (2, .int x2), (3, .int ((I3 (o + 48) (((3 * x1) + x2) : Int32).toNatClampNeg))), (4, .int r11), (5, .int r15)] rfl (sModel_choose_294_6 o n sh Rf I20 L21 post x1 x2 (I3 (o + 48) (((3 * x1) + x2) : Int32).toNatClampNeg) r11 r15 hok hw H)
      · have H := H.2 c8
        refine ev_goto 294 dModel_choose_234 (by decide) ?_
        exact ev_sub [(0, .ref o), (1, .int x1), (2, .int x2), (3, .int ((I3 (o + 48) (((3 * x1) + x2) : Int32).toNatClampNeg))), (4, .int x4), (5, .int x5)] rfl (sModel_choose_294_6 o n sh Rf I3 L4 post x1 x2 (I3 (o + 48) (((3 * x1) + x2) : Int32).toNatClampNeg) x4 x5 hok hw H)
def fModel_choose_200_21 (D : va_G) (cA : FieldType → ClassId) (b : Nat) (E : State → Prop) (o : Nat) (n : Nat) (sh : Nat → qC) (Rf : Nat → Nat → Option Nat) (I : Nat → Nat → Int32) (L : Nat → Nat → Int64) (post : Option Value → qS → Prop) (x1 : Int32) (x2 : Int32) (x3 : Int32) (x4 : Int32) (x5 : Int32) (x6 : Int32) (x7 : Int32) : Prop :=
  Ev (qGG D cA b E) mModel_forts 0 (0, 0) 0 (lv_args 0 [.ref o]) [] (n, sh, Rf, I, L) (fun v τ => ∃ (r2 : Int32) (I3 : Nat → Nat → Int32) (L4 : Nat → Nat → Int64), v = some (.int r2) ∧ τ = (n, sh, Rf, I3, L4) ∧ ((r2 ≤ x2 → Ev (qGG D cA b E) mModel_choose 7 (0, 0) 302 [(0, .ref o), (1, .int x1), (2, .int 0), (3, .int x3), (4, .int x4), (5, .int x5), (6, .int x6), (7, .int x7)] [] (n, sh, Rf, I3, L4) post) ∧ (¬ r2 ≤ x2 → vp_in ((3 * x1) + x2) 18 ∧ (((I3 (o + 48) (((3 * x1) + x2) : Int32).toNatClampNeg) < 0 → fModel_choose_294_24 D cA b E o n sh Rf I3 L4 post x1 x2 (I3 (o + 48) (((3 * x1) + x2) : Int32).toNatClampNeg) x4 x5 x6 x7) ∧ (¬ (I3 (o + 48) (((3 * x1) + x2) : Int32).toNatClampNeg) < 0 → ((12 ≤ ((I3 o 57) - (I3 (o + 48) (((3 * x1) + x2) : Int32).toNatClampNeg)) → vp_in x1 6 ∧ Ev (qGG D cA b E) mModel_affordable 1 (0, 0) 0 (lv_args 0 [.ref o, .int ((I3 o 70)), .long ((L4 (o + 68) (x1 : Int32).toNatClampNeg)), .int ((I3 o 73))]) [] (n, sh, Rf, I3, L4) (fun v τ => ∃ (r11 : Int32) (I12 : Nat → Nat → Int32) (L13 : Nat → Nat → Int64), v = some (.int r11) ∧ τ = (n, sh, Rf, I12, L13) ∧ Ev (qGG D cA b E) mModel_rateFor 6 (0, 0) 0 (lv_args 0 [.ref o, .int x2, .int 0]) [] (n, sh, Rf, I12, L13) (fun v τ => ∃ (r15 : Int32) (I16 : Nat → Nat → Int32) (L17 : Nat → Nat → Int64), v = some (.int r15) ∧ τ = (n, sh, Rf, I16, L17) ∧ Ev (qGG D cA b E) mModel_weigh 0 (0, 0) 0 (lv_args 0 [.ref o, .int 2, .int x2, .int ((-1)), .int r11, .int r15, .long (((r11 : Int32).toInt64 * (((r15 : Int32).toInt64 * (L17 o 121)) - ((I16 o 73) : Int32).toInt64)))]) [] (n, sh, Rf, I16, L17) (fun v τ => ∃ (I20 : Nat → Nat → Int32) (L21 : Nat → Nat → Int64), v = none ∧ τ = (n, sh, Rf, I20, L21) ∧ fModel_choose_294_24 D cA b E o n sh Rf I20 L21 post x1 x2 (I3 (o + 48) (((3 * x1) + x2) : Int32).toNatClampNeg) r11 r15 x6 x7)))) ∧ (¬ 12 ≤ ((I3 o 57) - (I3 (o + 48) (((3 * x1) + x2) : Int32).toNatClampNeg)) → fModel_choose_294_24 D cA b E o n sh Rf I3 L4 post x1 x2 (I3 (o + 48) (((3 * x1) + x2) : Int32).toNatClampNeg) x4 x5 x6 x7)))))))
set_option maxHeartbeats 4000000 in
set_option maxRecDepth 20000 in
theorem sModel_choose_200_21 {D : va_G} {cA : FieldType → ClassId} {b : Nat} {E : State → Prop} (o : Nat) (n : Nat) (sh : Nat → qC) (Rf : Nat → Nat → Option Nat) (I : Nat → Nat → Int32) (L : Nat → Nat → Int64) (post : Option Value → qS → Prop) (x1 : Int32) (x2 : Int32) (x3 : Int32) (x4 : Int32) (x5 : Int32) (x6 : Int32) (x7 : Int32) (hok : q_ok (qGG D cA b E)) (hw : WfModel (qGG D cA b E) n sh Rf o) (H : fModel_choose_200_21 D cA b E o n sh Rf I L post x1 x2 x3 x4 x5 x6 x7) : Ev (qGG D cA b E) mModel_choose 7 (0, 0) 200 [(0, .ref o), (1, .int x1), (2, .int x2), (3, .int x3), (4, .int x4), (5, .int x5), (6, .int x6), (7, .int x7)] [] (n, sh, Rf, I, L) post := by
  unfold fModel_choose_200_21 at H
  refine ev_iload_n dModel_choose_200 rfl ?_
  refine ev_aload_n dModel_choose_201 rfl ?_
  refine ev_callV [] [.int x2] (B' := (0, 0)) (B'' := (0, 0)) hok mmModel_forts mk_Model_624 (ci := 12) rfl rfl (woModel hw) rfl (Nat.le_of_ble_eq_true rfl) rfl (Nat.le_of_ble_eq_true rfl) dModel_choose_202 rfl (by decide) H (fun v τ p1 => ?_)
  obtain ⟨r2, I3, L4, rfl, rfl, H⟩ := p1
  refine ev_icmp_ge 300 dModel_choose_205 (by decide) (fun c5 => ?_) (fun c5 => ?_)
  · have H := H.1 c5
    refine ev_iconst (0) dModel_choose_300 (by decide) ?_
    refine ev_istore_n dModel_choose_301 (by decide) ?_
    exact ev_sub [(0, .ref o), (1, .int x1), (2, .int 0), (3, .int x3), (4, .int x4), (5, .int x5), (6, .int x6), (7, .int x7)] rfl H
  · have H := H.2 c5
    refine ev_aload_n dModel_choose_208 rfl ?_
    refine ev_getR hok fk_Model_584 (woModel hw) (fun _ _ _ => rfl) (wrModel_81 hw) dModel_choose_209 ?_
    refine ev_iconst (3) dModel_choose_212 (by decide) ?_
    refine ev_iload_n dModel_choose_213 rfl ?_
    refine ev_imul dModel_choose_214 ?_
    refine ev_iload_n dModel_choose_215 rfl ?_
    refine ev_iadd dModel_choose_216 ?_
    obtain ⟨h6, H⟩ := H
    refine ev_iald hok (waModel_81 hw) h6 dModel_choose_217 ?_
    refine ev_istore_n dModel_choose_218 (by decide) ?_
    refine ev_iload_n dModel_choose_219 rfl ?_
    refine ev_if_lt 294 dModel_choose_220 (by decide) (fun c7 => ?_) (fun c7 => ?_)
    · have H := H.1 c7
      exact ev_sub [(0, .ref o), (1, .int x1), (2, .int x2), (3, .int ((I3 (o + 48) (((3 * x1) + x2) : Int32).toNatClampNeg))), (4, .int x4), (5, .int x5), (6, .int x6), (7, .int x7)] rfl (sModel_choose_294_24 o n sh Rf I3 L4 post x1 x2 (I3 (o + 48) (((3 * x1) + x2) : Int32).toNatClampNeg) x4 x5 x6 x7 hok hw H)
    · have H := H.2 c7
      refine ev_aload_n dModel_choose_223 rfl ?_
      refine ev_getI hok fk_Model_348 (woModel hw) (fun _ _ _ => rfl) dModel_choose_224 ?_
      refine ev_iload_n dModel_choose_227 rfl ?_
      refine ev_isub dModel_choose_228 ?_
      refine ev_bipush (12) dModel_choose_229 (by decide) ?_
      refine ev_icmp_ge 237 dModel_choose_231 (by decide) (fun c8 => ?_) (fun c8 => ?_)
      · have H := H.1 c8
        refine ev_aload_n dModel_choose_237 rfl ?_
        refine ev_aload_n dModel_choose_238 rfl ?_
        refine ev_getI hok fk_Model_400 (woModel hw) (fun _ _ _ => rfl) dModel_choose_239 ?_
        refine ev_aload_n dModel_choose_242 rfl ?_
        refine ev_getR hok fk_Model_578 (woModel hw) (fun _ _ _ => rfl) (wrModel_101 hw) dModel_choose_243 ?_
        refine ev_iload_n dModel_choose_246 rfl ?_
        obtain ⟨h9, H⟩ := H
        refine ev_lald hok (waModel_101 hw) h9 dModel_choose_247 ?_
        refine ev_aload_n dModel_choose_248 rfl ?_
        refine ev_getI hok fk_Model_409 (woModel hw) (fun _ _ _ => rfl) dModel_choose_249 ?_
        refine ev_callV [.int ((I3 o 70)), .long ((L4 (o + 68) (x1 : Int32).toNatClampNeg)), .int ((I3 o 73))] [] (B' := (0, 0)) (B'' := (0, 0)) hok mmModel_affordable mk_Model_667 (ci := 12) rfl rfl (woModel hw) rfl (Nat.le_of_ble_eq_true rfl) rfl (Nat.le_of_ble_eq_true rfl) dModel_choose_252 rfl (by decide) H (fun v τ p10 => ?_)
        obtain ⟨r11, I12, L13, rfl, rfl, H⟩ := p10
        refine ev_istore dModel_choose_255 (by decide) ?_
        refine ev_aload_n dModel_choose_257 rfl ?_
        refine ev_iload_n dModel_choose_258 rfl ?_
        refine ev_iconst (0) dModel_choose_259 (by decide) ?_
        refine ev_callV [.int x2, .int 0] [] (B' := (0, 0)) (B'' := (0, 0)) hok mmModel_rateFor mk_Model_671 (ci := 12) rfl rfl (woModel hw) rfl (Nat.le_of_ble_eq_true rfl) rfl (Nat.le_of_ble_eq_true rfl) dModel_choose_260 rfl (by decide) H (fun v τ p14 => ?_)
        obtain ⟨r15, I16, L17, rfl, rfl, H⟩ := p14
        refine ev_istore dModel_choose_263 (by decide) ?_
        refine ev_aload_n dModel_choose_265 rfl ?_
        refine ev_iconst (2) dModel_choose_266 (by decide) ?_
        refine ev_iload_n dModel_choose_267 rfl ?_
        refine ev_iconst (-1) dModel_choose_268 (by decide) ?_
        refine ev_iload dModel_choose_269 rfl ?_
        refine ev_iload dModel_choose_271 rfl ?_
        refine ev_iload dModel_choose_273 rfl ?_
        refine ev_i2l dModel_choose_275 ?_
        refine ev_iload dModel_choose_276 rfl ?_
        refine ev_i2l dModel_choose_278 ?_
        refine ev_aload_n dModel_choose_279 rfl ?_
        refine ev_getL hok fk_Model_506 (woModel hw) (fun _ _ _ => rfl) dModel_choose_280 ?_
        refine ev_lmul dModel_choose_283 ?_
        refine ev_aload_n dModel_choose_284 rfl ?_
        refine ev_getI hok fk_Model_409 (woModel hw) (fun _ _ _ => rfl) dModel_choose_285 ?_
        refine ev_i2l dModel_choose_288 ?_
        refine ev_lsub dModel_choose_289 ?_
        refine ev_lmul dModel_choose_290 ?_
        refine ev_callV [.int 2, .int x2, .int ((-1)), .int r11, .int r15, .long (((r11 : Int32).toInt64 * (((r15 : Int32).toInt64 * (L17 o 121)) - ((I16 o 73) : Int32).toInt64)))] [] (B' := (0, 0)) (B'' := (0, 0)) hok mmModel_weigh mk_Model_674 (ci := 12) rfl rfl (woModel hw) rfl (Nat.le_of_ble_eq_true rfl) rfl (Nat.le_of_ble_eq_true rfl) dModel_choose_291 rfl (by decide) H (fun v τ p18 => ?_)
        obtain ⟨I20, L21, rfl, rfl, H⟩ := p18
        exact ev_sub [(0, .ref o), (1, .int x1), (2, .int x2), (3, .int ((I3 (o + 48) (((3 * x1) + x2) : Int32).toNatClampNeg))), (4, .int r11), (5, .int r15), (6, .int x6), (7, .int x7)] rfl (sModel_choose_294_24 o n sh Rf I20 L21 post x1 x2 (I3 (o + 48) (((3 * x1) + x2) : Int32).toNatClampNeg) r11 r15 x6 x7 hok hw H)
      · have H := H.2 c8
        refine ev_goto 294 dModel_choose_234 (by decide) ?_
        exact ev_sub [(0, .ref o), (1, .int x1), (2, .int x2), (3, .int ((I3 (o + 48) (((3 * x1) + x2) : Int32).toNatClampNeg))), (4, .int x4), (5, .int x5), (6, .int x6), (7, .int x7)] rfl (sModel_choose_294_24 o n sh Rf I3 L4 post x1 x2 (I3 (o + 48) (((3 * x1) + x2) : Int32).toNatClampNeg) x4 x5 x6 x7 hok hw H)
def fModel_choose_200_22 (D : va_G) (cA : FieldType → ClassId) (b : Nat) (E : State → Prop) (o : Nat) (n : Nat) (sh : Nat → qC) (Rf : Nat → Nat → Option Nat) (I : Nat → Nat → Int32) (L : Nat → Nat → Int64) (post : Option Value → qS → Prop) (x1 : Int32) (x2 : Int32) (x3 : Int32) (x4 : Int32) : Prop :=
  Ev (qGG D cA b E) mModel_forts 0 (0, 0) 0 (lv_args 0 [.ref o]) [] (n, sh, Rf, I, L) (fun v τ => ∃ (r2 : Int32) (I3 : Nat → Nat → Int32) (L4 : Nat → Nat → Int64), v = some (.int r2) ∧ τ = (n, sh, Rf, I3, L4) ∧ ((r2 ≤ x2 → Ev (qGG D cA b E) mModel_choose 7 (0, 0) 302 [(0, .ref o), (1, .int x1), (2, .int 0), (3, .int x3), (4, .int x4)] [] (n, sh, Rf, I3, L4) post) ∧ (¬ r2 ≤ x2 → vp_in ((3 * x1) + x2) 18 ∧ (((I3 (o + 48) (((3 * x1) + x2) : Int32).toNatClampNeg) < 0 → fModel_choose_294_26 D cA b E o n sh Rf I3 L4 post x1 x2 (I3 (o + 48) (((3 * x1) + x2) : Int32).toNatClampNeg) x4) ∧ (¬ (I3 (o + 48) (((3 * x1) + x2) : Int32).toNatClampNeg) < 0 → ((12 ≤ ((I3 o 57) - (I3 (o + 48) (((3 * x1) + x2) : Int32).toNatClampNeg)) → vp_in x1 6 ∧ Ev (qGG D cA b E) mModel_affordable 1 (0, 0) 0 (lv_args 0 [.ref o, .int ((I3 o 70)), .long ((L4 (o + 68) (x1 : Int32).toNatClampNeg)), .int ((I3 o 73))]) [] (n, sh, Rf, I3, L4) (fun v τ => ∃ (r11 : Int32) (I12 : Nat → Nat → Int32) (L13 : Nat → Nat → Int64), v = some (.int r11) ∧ τ = (n, sh, Rf, I12, L13) ∧ Ev (qGG D cA b E) mModel_rateFor 6 (0, 0) 0 (lv_args 0 [.ref o, .int x2, .int 0]) [] (n, sh, Rf, I12, L13) (fun v τ => ∃ (r15 : Int32) (I16 : Nat → Nat → Int32) (L17 : Nat → Nat → Int64), v = some (.int r15) ∧ τ = (n, sh, Rf, I16, L17) ∧ Ev (qGG D cA b E) mModel_weigh 0 (0, 0) 0 (lv_args 0 [.ref o, .int 2, .int x2, .int ((-1)), .int r11, .int r15, .long (((r11 : Int32).toInt64 * (((r15 : Int32).toInt64 * (L17 o 121)) - ((I16 o 73) : Int32).toInt64)))]) [] (n, sh, Rf, I16, L17) (fun v τ => ∃ (I20 : Nat → Nat → Int32) (L21 : Nat → Nat → Int64), v = none ∧ τ = (n, sh, Rf, I20, L21) ∧ fModel_choose_294_6 D cA b E o n sh Rf I20 L21 post x1 x2 (I3 (o + 48) (((3 * x1) + x2) : Int32).toNatClampNeg) r11 r15)))) ∧ (¬ 12 ≤ ((I3 o 57) - (I3 (o + 48) (((3 * x1) + x2) : Int32).toNatClampNeg)) → fModel_choose_294_26 D cA b E o n sh Rf I3 L4 post x1 x2 (I3 (o + 48) (((3 * x1) + x2) : Int32).toNatClampNeg) x4)))))))
set_option maxHeartbeats 4000000 in
set_option maxRecDepth 20000 in
theorem sModel_choose_200_22 {D : va_G} {cA : FieldType → ClassId} {b : Nat} {E : State → Prop} (o : Nat) (n : Nat) (sh : Nat → qC) (Rf : Nat → Nat → Option Nat) (I : Nat → Nat → Int32) (L : Nat → Nat → Int64) (post : Option Value → qS → Prop) (x1 : Int32) (x2 : Int32) (x3 : Int32) (x4 : Int32) (hok : q_ok (qGG D cA b E)) (hw : WfModel (qGG D cA b E) n sh Rf o) (H : fModel_choose_200_22 D cA b E o n sh Rf I L post x1 x2 x3 x4) : Ev (qGG D cA b E) mModel_choose 7 (0, 0) 200 [(0, .ref o), (1, .int x1), (2, .int x2), (3, .int x3), (4, .int x4)] [] (n, sh, Rf, I, L) post := by
  unfold fModel_choose_200_22 at H
  refine ev_iload_n dModel_choose_200 rfl ?_
  refine ev_aload_n dModel_choose_201 rfl ?_
  refine ev_callV [] [.int x2] (B' := (0, 0)) (B'' := (0, 0)) hok mmModel_forts mk_Model_624 (ci := 12) rfl rfl (woModel hw) rfl (Nat.le_of_ble_eq_true rfl) rfl (Nat.le_of_ble_eq_true rfl) dModel_choose_202 rfl (by decide) H (fun v τ p1 => ?_)
  obtain ⟨r2, I3, L4, rfl, rfl, H⟩ := p1
  refine ev_icmp_ge 300 dModel_choose_205 (by decide) (fun c5 => ?_) (fun c5 => ?_)
  · have H := H.1 c5
    refine ev_iconst (0) dModel_choose_300 (by decide) ?_
    refine ev_istore_n dModel_choose_301 (by decide) ?_
    exact ev_sub [(0, .ref o), (1, .int x1), (2, .int 0), (3, .int x3), (4, .int x4)] rfl H
  · have H := H.2 c5
    refine ev_aload_n dModel_choose_208 rfl ?_
    refine ev_getR hok fk_Model_584 (woModel hw) (fun _ _ _ => rfl) (wrModel_81 hw) dModel_choose_209 ?_
    refine ev_iconst (3) dModel_choose_212 (by decide) ?_
    refine ev_iload_n dModel_choose_213 rfl ?_
    refine ev_imul dModel_choose_214 ?_
    refine ev_iload_n dModel_choose_215 rfl ?_
    refine ev_iadd dModel_choose_216 ?_
    obtain ⟨h6, H⟩ := H
    refine ev_iald hok (waModel_81 hw) h6 dModel_choose_217 ?_
    refine ev_istore_n dModel_choose_218 (by decide) ?_
    refine ev_iload_n dModel_choose_219 rfl ?_
    refine ev_if_lt 294 dModel_choose_220 (by decide) (fun c7 => ?_) (fun c7 => ?_)
    · have H := H.1 c7
      exact ev_sub [(0, .ref o), (1, .int x1), (2, .int x2), (3, .int ((I3 (o + 48) (((3 * x1) + x2) : Int32).toNatClampNeg))), (4, .int x4)] rfl (sModel_choose_294_26 o n sh Rf I3 L4 post x1 x2 (I3 (o + 48) (((3 * x1) + x2) : Int32).toNatClampNeg) x4 hok hw H)
    · have H := H.2 c7
      refine ev_aload_n dModel_choose_223 rfl ?_
      refine ev_getI hok fk_Model_348 (woModel hw) (fun _ _ _ => rfl) dModel_choose_224 ?_
      refine ev_iload_n dModel_choose_227 rfl ?_
      refine ev_isub dModel_choose_228 ?_
      refine ev_bipush (12) dModel_choose_229 (by decide) ?_
      refine ev_icmp_ge 237 dModel_choose_231 (by decide) (fun c8 => ?_) (fun c8 => ?_)
      · have H := H.1 c8
        refine ev_aload_n dModel_choose_237 rfl ?_
        refine ev_aload_n dModel_choose_238 rfl ?_
        refine ev_getI hok fk_Model_400 (woModel hw) (fun _ _ _ => rfl) dModel_choose_239 ?_
        refine ev_aload_n dModel_choose_242 rfl ?_
        refine ev_getR hok fk_Model_578 (woModel hw) (fun _ _ _ => rfl) (wrModel_101 hw) dModel_choose_243 ?_
        refine ev_iload_n dModel_choose_246 rfl ?_
        obtain ⟨h9, H⟩ := H
        refine ev_lald hok (waModel_101 hw) h9 dModel_choose_247 ?_
        refine ev_aload_n dModel_choose_248 rfl ?_
        refine ev_getI hok fk_Model_409 (woModel hw) (fun _ _ _ => rfl) dModel_choose_249 ?_
        refine ev_callV [.int ((I3 o 70)), .long ((L4 (o + 68) (x1 : Int32).toNatClampNeg)), .int ((I3 o 73))] [] (B' := (0, 0)) (B'' := (0, 0)) hok mmModel_affordable mk_Model_667 (ci := 12) rfl rfl (woModel hw) rfl (Nat.le_of_ble_eq_true rfl) rfl (Nat.le_of_ble_eq_true rfl) dModel_choose_252 rfl (by decide) H (fun v τ p10 => ?_)
        obtain ⟨r11, I12, L13, rfl, rfl, H⟩ := p10
        refine ev_istore dModel_choose_255 (by decide) ?_
        refine ev_aload_n dModel_choose_257 rfl ?_
        refine ev_iload_n dModel_choose_258 rfl ?_
        refine ev_iconst (0) dModel_choose_259 (by decide) ?_
        refine ev_callV [.int x2, .int 0] [] (B' := (0, 0)) (B'' := (0, 0)) hok mmModel_rateFor mk_Model_671 (ci := 12) rfl rfl (woModel hw) rfl (Nat.le_of_ble_eq_true rfl) rfl (Nat.le_of_ble_eq_true rfl) dModel_choose_260 rfl (by decide) H (fun v τ p14 => ?_)
        obtain ⟨r15, I16, L17, rfl, rfl, H⟩ := p14
        refine ev_istore dModel_choose_263 (by decide) ?_
        refine ev_aload_n dModel_choose_265 rfl ?_
        refine ev_iconst (2) dModel_choose_266 (by decide) ?_
        refine ev_iload_n dModel_choose_267 rfl ?_
        refine ev_iconst (-1) dModel_choose_268 (by decide) ?_
        refine ev_iload dModel_choose_269 rfl ?_
        refine ev_iload dModel_choose_271 rfl ?_
        refine ev_iload dModel_choose_273 rfl ?_
        refine ev_i2l dModel_choose_275 ?_
        refine ev_iload dModel_choose_276 rfl ?_
        refine ev_i2l dModel_choose_278 ?_
        refine ev_aload_n dModel_choose_279 rfl ?_
        refine ev_getL hok fk_Model_506 (woModel hw) (fun _ _ _ => rfl) dModel_choose_280 ?_
        refine ev_lmul dModel_choose_283 ?_
        refine ev_aload_n dModel_choose_284 rfl ?_
        refine ev_getI hok fk_Model_409 (woModel hw) (fun _ _ _ => rfl) dModel_choose_285 ?_
        refine ev_i2l dModel_choose_288 ?_
        refine ev_lsub dModel_choose_289 ?_
        refine ev_lmul dModel_choose_290 ?_
        refine ev_callV [.int 2, .int x2, .int ((-1)), .int r11, .int r15, .long (((r11 : Int32).toInt64 * (((r15 : Int32).toInt64 * (L17 o 121)) - ((I16 o 73) : Int32).toInt64)))] [] (B' := (0, 0)) (B'' := (0, 0)) hok mmModel_weigh mk_Model_674 (ci := 12) rfl rfl (woModel hw) rfl (Nat.le_of_ble_eq_true rfl) rfl (Nat.le_of_ble_eq_true rfl) dModel_choose_291 rfl (by decide) H (fun v τ p18 => ?_)
        obtain ⟨I20, L21, rfl, rfl, H⟩ := p18
        exact ev_sub [(0, .ref o), (1, .int x1), (2, .int x2), (3, .int ((I3 (o + 48) (((3 * x1) + x2) : Int32).toNatClampNeg))), (4, .int r11), (5, .int r15)] rfl (sModel_choose_294_6 o n sh Rf I20 L21 post x1 x2 (I3 (o + 48) (((3 * x1) + x2) : Int32).toNatClampNeg) r11 r15 hok hw H)
      · have H := H.2 c8
        refine ev_goto 294 dModel_choose_234 (by decide) ?_
        exact ev_sub [(0, .ref o), (1, .int x1), (2, .int x2), (3, .int ((I3 (o + 48) (((3 * x1) + x2) : Int32).toNatClampNeg))), (4, .int x4)] rfl (sModel_choose_294_26 o n sh Rf I3 L4 post x1 x2 (I3 (o + 48) (((3 * x1) + x2) : Int32).toNatClampNeg) x4 hok hw H)
def fModel_choose_186 (D : va_G) (cA : FieldType → ClassId) (b : Nat) (E : State → Prop) (o : Nat) (n : Nat) (sh : Nat → qC) (Rf : Nat → Nat → Option Nat) (I : Nat → Nat → Int32) (L : Nat → Nat → Int64) (post : Option Value → qS → Prop) (x1 : Int32) (x2 : Int32) (x3 : Int32) (x4 : Int32) (x5 : Int32) (x6 : Int32) (x7 : Int32) : Prop :=
  Ev (qGG D cA b E) mModel_choose 7 (0, 0) 53 [(0, .ref o), (1, .int x1), (2, .int x2), (3, .int ((x3 + Int32.ofInt 1))), (4, .int x4), (5, .int x5), (6, .int x6), (7, .int x7)] [] (n, sh, Rf, I, L) post
set_option maxHeartbeats 4000000 in
set_option maxRecDepth 20000 in
theorem sModel_choose_186 {D : va_G} {cA : FieldType → ClassId} {b : Nat} {E : State → Prop} (o : Nat) (n : Nat) (sh : Nat → qC) (Rf : Nat → Nat → Option Nat) (I : Nat → Nat → Int32) (L : Nat → Nat → Int64) (post : Option Value → qS → Prop) (x1 : Int32) (x2 : Int32) (x3 : Int32) (x4 : Int32) (x5 : Int32) (x6 : Int32) (x7 : Int32) (hok : q_ok (qGG D cA b E)) (hw : WfModel (qGG D cA b E) n sh Rf o) (H : fModel_choose_186 D cA b E o n sh Rf I L post x1 x2 x3 x4 x5 x6 x7) : Ev (qGG D cA b E) mModel_choose 7 (0, 0) 186 [(0, .ref o), (1, .int x1), (2, .int x2), (3, .int x3), (4, .int x4), (5, .int x5), (6, .int x6), (7, .int x7)] [] (n, sh, Rf, I, L) post := by
  unfold fModel_choose_186 at H
  refine ev_iinc dModel_choose_186 rfl (by decide) ?_
  refine ev_goto 53 dModel_choose_189 (by decide) ?_
  exact ev_sub [(0, .ref o), (1, .int x1), (2, .int x2), (3, .int ((x3 + Int32.ofInt 1))), (4, .int x4), (5, .int x5), (6, .int x6), (7, .int x7)] rfl H
def fModel_choose_186_9 (D : va_G) (cA : FieldType → ClassId) (b : Nat) (E : State → Prop) (o : Nat) (n : Nat) (sh : Nat → qC) (Rf : Nat → Nat → Option Nat) (I : Nat → Nat → Int32) (L : Nat → Nat → Int64) (post : Option Value → qS → Prop) (x1 : Int32) (x2 : Int32) (x3 : Int32) (x4 : Int32) : Prop :=
  Ev (qGG D cA b E) mModel_choose 7 (0, 0) 53 [(0, .ref o), (1, .int x1), (2, .int x2), (3, .int ((x3 + Int32.ofInt 1))), (4, .int x4)] [] (n, sh, Rf, I, L) post
set_option maxHeartbeats 4000000 in
set_option maxRecDepth 20000 in
theorem sModel_choose_186_9 {D : va_G} {cA : FieldType → ClassId} {b : Nat} {E : State → Prop} (o : Nat) (n : Nat) (sh : Nat → qC) (Rf : Nat → Nat → Option Nat) (I : Nat → Nat → Int32) (L : Nat → Nat → Int64) (post : Option Value → qS → Prop) (x1 : Int32) (x2 : Int32) (x3 : Int32) (x4 : Int32) (hok : q_ok (qGG D cA b E)) (hw : WfModel (qGG D cA b E) n sh Rf o) (H : fModel_choose_186_9 D cA b E o n sh Rf I L post x1 x2 x3 x4) : Ev (qGG D cA b E) mModel_choose 7 (0, 0) 186 [(0, .ref o), (1, .int x1), (2, .int x2), (3, .int x3), (4, .int x4)] [] (n, sh, Rf, I, L) post := by
  unfold fModel_choose_186_9 at H
  refine ev_iinc dModel_choose_186 rfl (by decide) ?_
  refine ev_goto 53 dModel_choose_189 (by decide) ?_
  exact ev_sub [(0, .ref o), (1, .int x1), (2, .int x2), (3, .int ((x3 + Int32.ofInt 1))), (4, .int x4)] rfl H
def fModel_choose_53 (D : va_G) (cA : FieldType → ClassId) (b : Nat) (E : State → Prop) (o : Nat) (n : Nat) (sh : Nat → qC) (Rf : Nat → Nat → Option Nat) (I : Nat → Nat → Int32) (L : Nat → Nat → Int64) (post : Option Value → qS → Prop) (x1 : Int32) (x2 : Int32) (x3 : Int32) : Prop :=
  Ev (qGG D cA b E) mModel_towns 0 (0, 0) 0 (lv_args 0 [.ref o]) [] (n, sh, Rf, I, L) (fun v τ => ∃ (r2 : Int32) (I3 : Nat → Nat → Int32) (L4 : Nat → Nat → Int64), v = some (.int r2) ∧ τ = (n, sh, Rf, I3, L4) ∧ ((r2 ≤ x3 → Ev (qGG D cA b E) mModel_choose 7 (0, 0) 43 [(0, .ref o), (1, .int x1), (2, .int ((x2 + Int32.ofInt 1))), (3, .int x3)] [] (n, sh, Rf, I3, L4) post) ∧ (¬ r2 ≤ x3 → Ev (qGG D cA b E) mModel_townAt 0 (0, 0) 0 (lv_args 0 [.ref o, .int x3]) [] (n, sh, Rf, I3, L4) (fun v τ => ∃ (r7 : Int32) (I8 : Nat → Nat → Int32) (L9 : Nat → Nat → Int64), v = some (.int r7) ∧ τ = (n, sh, Rf, I8, L9) ∧ Ev (qGG D cA b E) mModel_fortAt 0 (0, 0) 0 (lv_args 0 [.ref o, .int x2]) [] (n, sh, Rf, I8, L9) (fun v τ => ∃ (r11 : Int32) (I12 : Nat → Nat → Int32) (L13 : Nat → Nat → Int64), v = some (.int r11) ∧ τ = (n, sh, Rf, I12, L13) ∧ vp_in ((16 * r7) + r11) 256 ∧ (((I12 (o + 25) (((16 * r7) + r11) : Int32).toNatClampNeg) < 1000000 → vp_in ((5 * (I12 o 34)) + x3) 10 ∧ vp_in x3 5 ∧ Ev (qGG D cA b E) mModel_least 0 (0, 0) 0 (lv_args 0 [.int ((I12 o 70)), .long ((((I12 (o + 46) (x3 : Int32).toNatClampNeg) / 10) : Int32).toInt64)]) [] (n, sh, Rf, I12, L13) (fun v τ => ∃ (r19 : Int32) (I20 : Nat → Nat → Int32) (L21 : Nat → Nat → Int64), v = some (.int r19) ∧ τ = (n, sh, Rf, I20, L21) ∧ vp_in x1 6 ∧ Ev (qGG D cA b E) mModel_affordable 1 (0, 0) 0 (lv_args 0 [.ref o, .int r19, .long ((L21 (o + 68) (x1 : Int32).toNatClampNeg)), .int (((10 * (I12 (o + 24) (((5 * (I12 o 34)) + x3) : Int32).toNatClampNeg)) + ((I12 (o + 25) (((16 * r7) + r11) : Int32).toNatClampNeg) * (I12 o 69))))]) [] (n, sh, Rf, I20, L21) (fun v τ => ∃ (r24 : Int32) (I25 : Nat → Nat → Int32) (L26 : Nat → Nat → Int64), v = some (.int r24) ∧ τ = (n, sh, Rf, I25, L26) ∧ Ev (qGG D cA b E) mModel_rateFor 6 (0, 0) 0 (lv_args 0 [.ref o, .int x2, .int ((I12 (o + 25) (((16 * r7) + r11) : Int32).toNatClampNeg))]) [] (n, sh, Rf, I25, L26) (fun v τ => ∃ (r28 : Int32) (I29 : Nat → Nat → Int32) (L30 : Nat → Nat → Int64), v = some (.int r28) ∧ τ = (n, sh, Rf, I29, L30) ∧ Ev (qGG D cA b E) mModel_weigh 0 (0, 0) 0 (lv_args 0 [.ref o, .int 1, .int x2, .int x3, .int r24, .int r28, .long (((r24 : Int32).toInt64 * (((r28 : Int32).toInt64 * (L30 o 121)) - (((10 * (I12 (o + 24) (((5 * (I12 o 34)) + x3) : Int32).toNatClampNeg)) + ((I12 (o + 25) (((16 * r7) + r11) : Int32).toNatClampNeg) * (I12 o 69))) : Int32).toInt64)))]) [] (n, sh, Rf, I29, L30) (fun v τ => ∃ (I33 : Nat → Nat → Int32) (L34 : Nat → Nat → Int64), v = none ∧ τ = (n, sh, Rf, I33, L34) ∧ fModel_choose_186 D cA b E o n sh Rf I33 L34 post x1 x2 x3 (I12 (o + 25) (((16 * r7) + r11) : Int32).toNatClampNeg) ((10 * (I12 (o + 24) (((5 * (I12 o 34)) + x3) : Int32).toNatClampNeg)) + ((I12 (o + 25) (((16 * r7) + r11) : Int32).toNatClampNeg) * (I12 o 69))) r24 r28))))) ∧ (¬ (I12 (o + 25) (((16 * r7) + r11) : Int32).toNatClampNeg) < 1000000 → fModel_choose_186_9 D cA b E o n sh Rf I12 L13 post x1 x2 x3 (I12 (o + 25) (((16 * r7) + r11) : Int32).toNatClampNeg))))))))
set_option maxHeartbeats 4000000 in
set_option maxRecDepth 20000 in
theorem sModel_choose_53 {D : va_G} {cA : FieldType → ClassId} {b : Nat} {E : State → Prop} (o : Nat) (n : Nat) (sh : Nat → qC) (Rf : Nat → Nat → Option Nat) (I : Nat → Nat → Int32) (L : Nat → Nat → Int64) (post : Option Value → qS → Prop) (x1 : Int32) (x2 : Int32) (x3 : Int32) (hok : q_ok (qGG D cA b E)) (hw : WfModel (qGG D cA b E) n sh Rf o) (H : fModel_choose_53 D cA b E o n sh Rf I L post x1 x2 x3) : Ev (qGG D cA b E) mModel_choose 7 (0, 0) 53 [(0, .ref o), (1, .int x1), (2, .int x2), (3, .int x3)] [] (n, sh, Rf, I, L) post := by
  unfold fModel_choose_53 at H
  refine ev_iload_n dModel_choose_53 rfl ?_
  refine ev_aload_n dModel_choose_54 rfl ?_
  refine ev_callV [] [.int x3] (B' := (0, 0)) (B'' := (0, 0)) hok mmModel_towns mk_Model_488 (ci := 12) rfl rfl (woModel hw) rfl (Nat.le_of_ble_eq_true rfl) rfl (Nat.le_of_ble_eq_true rfl) dModel_choose_55 rfl (by decide) H (fun v τ p1 => ?_)
  obtain ⟨r2, I3, L4, rfl, rfl, H⟩ := p1
  refine ev_icmp_ge 192 dModel_choose_58 (by decide) (fun c5 => ?_) (fun c5 => ?_)
  · have H := H.1 c5
    refine ev_iinc dModel_choose_192 rfl (by decide) ?_
    refine ev_goto 43 dModel_choose_195 (by decide) ?_
    exact ev_sub [(0, .ref o), (1, .int x1), (2, .int ((x2 + Int32.ofInt 1))), (3, .int x3)] rfl H
  · have H := H.2 c5
    refine ev_aload_n dModel_choose_61 rfl ?_
    refine ev_getR hok fk_Model_269 (woModel hw) (fun _ _ _ => rfl) (wrModel_36 hw) dModel_choose_62 ?_
    refine ev_bipush (16) dModel_choose_65 (by decide) ?_
    refine ev_aload_n dModel_choose_67 rfl ?_
    refine ev_iload_n dModel_choose_68 rfl ?_
    refine ev_callV [.int x3] [.int 16, .ref ((o + 25))] (B' := (0, 0)) (B'' := (0, 0)) hok mmModel_townAt mk_Model_494 (ci := 12) rfl rfl (woModel hw) rfl (Nat.le_of_ble_eq_true rfl) rfl (Nat.le_of_ble_eq_true rfl) dModel_choose_69 rfl (by decide) H (fun v τ p6 => ?_)
    obtain ⟨r7, I8, L9, rfl, rfl, H⟩ := p6
    refine ev_imul dModel_choose_72 ?_
    refine ev_aload_n dModel_choose_73 rfl ?_
    refine ev_iload_n dModel_choose_74 rfl ?_
    refine ev_callV [.int x2] [.int ((16 * r7)), .ref ((o + 25))] (B' := (0, 0)) (B'' := (0, 0)) hok mmModel_fortAt mk_Model_661 (ci := 12) rfl rfl (woModel hw) rfl (Nat.le_of_ble_eq_true rfl) rfl (Nat.le_of_ble_eq_true rfl) dModel_choose_75 rfl (by decide) H (fun v τ p10 => ?_)
    obtain ⟨r11, I12, L13, rfl, rfl, H⟩ := p10
    refine ev_iadd dModel_choose_78 ?_
    obtain ⟨h14, H⟩ := H
    refine ev_iald hok (waModel_36 hw) h14 dModel_choose_79 ?_
    refine ev_istore dModel_choose_80 (by decide) ?_
    refine ev_iload dModel_choose_82 rfl ?_
    refine ev_ldcw (1000000) dModel_choose_84 (q_t7 92 (by decide +kernel) rfl) ?_
    refine ev_icmp_lt 93 dModel_choose_87 (by decide) (fun c15 => ?_) (fun c15 => ?_)
    · have H := H.1 c15
      refine ev_bipush (10) dModel_choose_93 (by decide) ?_
      refine ev_aload_n dModel_choose_95 rfl ?_
      refine ev_getR hok fk_Model_266 (woModel hw) (fun _ _ _ => rfl) (wrModel_33 hw) dModel_choose_96 ?_
      refine ev_iconst (5) dModel_choose_99 (by decide) ?_
      refine ev_aload_n dModel_choose_100 rfl ?_
      refine ev_getI hok fk_Model_147 (woModel hw) (fun _ _ _ => rfl) dModel_choose_101 ?_
      refine ev_imul dModel_choose_104 ?_
      refine ev_iload_n dModel_choose_105 rfl ?_
      refine ev_iadd dModel_choose_106 ?_
      obtain ⟨h16, H⟩ := H
      refine ev_iald hok (waModel_33 hw) h16 dModel_choose_107 ?_
      refine ev_imul dModel_choose_108 ?_
      refine ev_iload dModel_choose_109 rfl ?_
      refine ev_aload_n dModel_choose_111 rfl ?_
      refine ev_getI hok fk_Model_397 (woModel hw) (fun _ _ _ => rfl) dModel_choose_112 ?_
      refine ev_imul dModel_choose_115 ?_
      refine ev_iadd dModel_choose_116 ?_
      refine ev_istore dModel_choose_117 (by decide) ?_
      refine ev_aload_n dModel_choose_119 rfl ?_
      refine ev_aload_n dModel_choose_120 rfl ?_
      refine ev_getI hok fk_Model_400 (woModel hw) (fun _ _ _ => rfl) dModel_choose_121 ?_
      refine ev_aload_n dModel_choose_124 rfl ?_
      refine ev_getR hok fk_Model_664 (woModel hw) (fun _ _ _ => rfl) (wrModel_79 hw) dModel_choose_125 ?_
      refine ev_iload_n dModel_choose_128 rfl ?_
      obtain ⟨h17, H⟩ := H
      refine ev_iald hok (waModel_79 hw) h17 dModel_choose_129 ?_
      refine ev_bipush (10) dModel_choose_130 (by decide) ?_
      refine ev_idiv dModel_choose_132 (by decide) ?_
      refine ev_i2l dModel_choose_133 ?_
      refine ev_callS [.int ((I12 o 70)), .long ((((I12 (o + 46) (x3 : Int32).toNatClampNeg) / 10) : Int32).toInt64)] [.ref o] (B' := (0, 0)) (B'' := (0, 0)) hok mmModel_least mk_Model_651 rfl (Nat.le_of_ble_eq_true rfl) rfl (Nat.le_of_ble_eq_true rfl) dModel_choose_134 rfl (by decide) H (fun v τ p18 => ?_)
      obtain ⟨r19, I20, L21, rfl, rfl, H⟩ := p18
      refine ev_aload_n dModel_choose_137 rfl ?_
      refine ev_getR hok fk_Model_578 (woModel hw) (fun _ _ _ => rfl) (wrModel_101 hw) dModel_choose_138 ?_
      refine ev_iload_n dModel_choose_141 rfl ?_
      obtain ⟨h22, H⟩ := H
      refine ev_lald hok (waModel_101 hw) h22 dModel_choose_142 ?_
      refine ev_iload dModel_choose_143 rfl ?_
      refine ev_callV [.int r19, .long ((L21 (o + 68) (x1 : Int32).toNatClampNeg)), .int (((10 * (I12 (o + 24) (((5 * (I12 o 34)) + x3) : Int32).toNatClampNeg)) + ((I12 (o + 25) (((16 * r7) + r11) : Int32).toNatClampNeg) * (I12 o 69))))] [] (B' := (0, 0)) (B'' := (0, 0)) hok mmModel_affordable mk_Model_667 (ci := 12) rfl rfl (woModel hw) rfl (Nat.le_of_ble_eq_true rfl) rfl (Nat.le_of_ble_eq_true rfl) dModel_choose_145 rfl (by decide) H (fun v τ p23 => ?_)
      obtain ⟨r24, I25, L26, rfl, rfl, H⟩ := p23
      refine ev_istore dModel_choose_148 (by decide) ?_
      refine ev_aload_n dModel_choose_150 rfl ?_
      refine ev_iload_n dModel_choose_151 rfl ?_
      refine ev_iload dModel_choose_152 rfl ?_
      refine ev_callV [.int x2, .int ((I12 (o + 25) (((16 * r7) + r11) : Int32).toNatClampNeg))] [] (B' := (0, 0)) (B'' := (0, 0)) hok mmModel_rateFor mk_Model_671 (ci := 12) rfl rfl (woModel hw) rfl (Nat.le_of_ble_eq_true rfl) rfl (Nat.le_of_ble_eq_true rfl) dModel_choose_154 rfl (by decide) H (fun v τ p27 => ?_)
      obtain ⟨r28, I29, L30, rfl, rfl, H⟩ := p27
      refine ev_istore dModel_choose_157 (by decide) ?_
      refine ev_aload_n dModel_choose_159 rfl ?_
      refine ev_iconst (1) dModel_choose_160 (by decide) ?_
      refine ev_iload_n dModel_choose_161 rfl ?_
      refine ev_iload_n dModel_choose_162 rfl ?_
      refine ev_iload dModel_choose_163 rfl ?_
      refine ev_iload dModel_choose_165 rfl ?_
      refine ev_iload dModel_choose_167 rfl ?_
      refine ev_i2l dModel_choose_169 ?_
      refine ev_iload dModel_choose_170 rfl ?_
      refine ev_i2l dModel_choose_172 ?_
      refine ev_aload_n dModel_choose_173 rfl ?_
      refine ev_getL hok fk_Model_506 (woModel hw) (fun _ _ _ => rfl) dModel_choose_174 ?_
      refine ev_lmul dModel_choose_177 ?_
      refine ev_iload dModel_choose_178 rfl ?_
      refine ev_i2l dModel_choose_180 ?_
      refine ev_lsub dModel_choose_181 ?_
      refine ev_lmul dModel_choose_182 ?_
      refine ev_callV [.int 1, .int x2, .int x3, .int r24, .int r28, .long (((r24 : Int32).toInt64 * (((r28 : Int32).toInt64 * (L30 o 121)) - (((10 * (I12 (o + 24) (((5 * (I12 o 34)) + x3) : Int32).toNatClampNeg)) + ((I12 (o + 25) (((16 * r7) + r11) : Int32).toNatClampNeg) * (I12 o 69))) : Int32).toInt64)))] [] (B' := (0, 0)) (B'' := (0, 0)) hok mmModel_weigh mk_Model_674 (ci := 12) rfl rfl (woModel hw) rfl (Nat.le_of_ble_eq_true rfl) rfl (Nat.le_of_ble_eq_true rfl) dModel_choose_183 rfl (by decide) H (fun v τ p31 => ?_)
      obtain ⟨I33, L34, rfl, rfl, H⟩ := p31
      exact ev_sub [(0, .ref o), (1, .int x1), (2, .int x2), (3, .int x3), (4, .int ((I12 (o + 25) (((16 * r7) + r11) : Int32).toNatClampNeg))), (5, .int (((10 * (I12 (o + 24) (((5 * (I12 o 34)) + x3) : Int32).toNatClampNeg)) + ((I12 (o + 25) (((16 * r7) + r11) : Int32).toNatClampNeg) * (I12 o 69))))), (6, .int r24), (7, .int r28)] rfl (sModel_choose_186 o n sh Rf I33 L34 post x1 x2 x3 (I12 (o + 25) (((16 * r7) + r11) : Int32).toNatClampNeg) ((10 * (I12 (o + 24) (((5 * (I12 o 34)) + x3) : Int32).toNatClampNeg)) + ((I12 (o + 25) (((16 * r7) + r11) : Int32).toNatClampNeg) * (I12 o 69))) r24 r28 hok hw H)
    · have H := H.2 c15
      refine ev_goto 186 dModel_choose_90 (by decide) ?_
      exact ev_sub [(0, .ref o), (1, .int x1), (2, .int x2), (3, .int x3), (4, .int ((I12 (o + 25) (((16 * r7) + r11) : Int32).toNatClampNeg)))] rfl (sModel_choose_186_9 o n sh Rf I12 L13 post x1 x2 x3 (I12 (o + 25) (((16 * r7) + r11) : Int32).toNatClampNeg) hok hw H)
def fModel_choose_53_13 (D : va_G) (cA : FieldType → ClassId) (b : Nat) (E : State → Prop) (o : Nat) (n : Nat) (sh : Nat → qC) (Rf : Nat → Nat → Option Nat) (I : Nat → Nat → Int32) (L : Nat → Nat → Int64) (post : Option Value → qS → Prop) (x1 : Int32) (x2 : Int32) (x3 : Int32) (x4 : Int32) (x5 : Int32) (x6 : Int32) (x7 : Int32) : Prop :=
  Ev (qGG D cA b E) mModel_towns 0 (0, 0) 0 (lv_args 0 [.ref o]) [] (n, sh, Rf, I, L) (fun v τ => ∃ (r2 : Int32) (I3 : Nat → Nat → Int32) (L4 : Nat → Nat → Int64), v = some (.int r2) ∧ τ = (n, sh, Rf, I3, L4) ∧ ((r2 ≤ x3 → Ev (qGG D cA b E) mModel_choose 7 (0, 0) 43 [(0, .ref o), (1, .int x1), (2, .int ((x2 + Int32.ofInt 1))), (3, .int x3), (4, .int x4), (5, .int x5), (6, .int x6), (7, .int x7)] [] (n, sh, Rf, I3, L4) post) ∧ (¬ r2 ≤ x3 → Ev (qGG D cA b E) mModel_townAt 0 (0, 0) 0 (lv_args 0 [.ref o, .int x3]) [] (n, sh, Rf, I3, L4) (fun v τ => ∃ (r7 : Int32) (I8 : Nat → Nat → Int32) (L9 : Nat → Nat → Int64), v = some (.int r7) ∧ τ = (n, sh, Rf, I8, L9) ∧ Ev (qGG D cA b E) mModel_fortAt 0 (0, 0) 0 (lv_args 0 [.ref o, .int x2]) [] (n, sh, Rf, I8, L9) (fun v τ => ∃ (r11 : Int32) (I12 : Nat → Nat → Int32) (L13 : Nat → Nat → Int64), v = some (.int r11) ∧ τ = (n, sh, Rf, I12, L13) ∧ vp_in ((16 * r7) + r11) 256 ∧ (((I12 (o + 25) (((16 * r7) + r11) : Int32).toNatClampNeg) < 1000000 → vp_in ((5 * (I12 o 34)) + x3) 10 ∧ vp_in x3 5 ∧ Ev (qGG D cA b E) mModel_least 0 (0, 0) 0 (lv_args 0 [.int ((I12 o 70)), .long ((((I12 (o + 46) (x3 : Int32).toNatClampNeg) / 10) : Int32).toInt64)]) [] (n, sh, Rf, I12, L13) (fun v τ => ∃ (r19 : Int32) (I20 : Nat → Nat → Int32) (L21 : Nat → Nat → Int64), v = some (.int r19) ∧ τ = (n, sh, Rf, I20, L21) ∧ vp_in x1 6 ∧ Ev (qGG D cA b E) mModel_affordable 1 (0, 0) 0 (lv_args 0 [.ref o, .int r19, .long ((L21 (o + 68) (x1 : Int32).toNatClampNeg)), .int (((10 * (I12 (o + 24) (((5 * (I12 o 34)) + x3) : Int32).toNatClampNeg)) + ((I12 (o + 25) (((16 * r7) + r11) : Int32).toNatClampNeg) * (I12 o 69))))]) [] (n, sh, Rf, I20, L21) (fun v τ => ∃ (r24 : Int32) (I25 : Nat → Nat → Int32) (L26 : Nat → Nat → Int64), v = some (.int r24) ∧ τ = (n, sh, Rf, I25, L26) ∧ Ev (qGG D cA b E) mModel_rateFor 6 (0, 0) 0 (lv_args 0 [.ref o, .int x2, .int ((I12 (o + 25) (((16 * r7) + r11) : Int32).toNatClampNeg))]) [] (n, sh, Rf, I25, L26) (fun v τ => ∃ (r28 : Int32) (I29 : Nat → Nat → Int32) (L30 : Nat → Nat → Int64), v = some (.int r28) ∧ τ = (n, sh, Rf, I29, L30) ∧ Ev (qGG D cA b E) mModel_weigh 0 (0, 0) 0 (lv_args 0 [.ref o, .int 1, .int x2, .int x3, .int r24, .int r28, .long (((r24 : Int32).toInt64 * (((r28 : Int32).toInt64 * (L30 o 121)) - (((10 * (I12 (o + 24) (((5 * (I12 o 34)) + x3) : Int32).toNatClampNeg)) + ((I12 (o + 25) (((16 * r7) + r11) : Int32).toNatClampNeg) * (I12 o 69))) : Int32).toInt64)))]) [] (n, sh, Rf, I29, L30) (fun v τ => ∃ (I33 : Nat → Nat → Int32) (L34 : Nat → Nat → Int64), v = none ∧ τ = (n, sh, Rf, I33, L34) ∧ fModel_choose_186 D cA b E o n sh Rf I33 L34 post x1 x2 x3 (I12 (o + 25) (((16 * r7) + r11) : Int32).toNatClampNeg) ((10 * (I12 (o + 24) (((5 * (I12 o 34)) + x3) : Int32).toNatClampNeg)) + ((I12 (o + 25) (((16 * r7) + r11) : Int32).toNatClampNeg) * (I12 o 69))) r24 r28))))) ∧ (¬ (I12 (o + 25) (((16 * r7) + r11) : Int32).toNatClampNeg) < 1000000 → fModel_choose_186 D cA b E o n sh Rf I12 L13 post x1 x2 x3 (I12 (o + 25) (((16 * r7) + r11) : Int32).toNatClampNeg) x5 x6 x7)))))))
set_option maxHeartbeats 4000000 in
set_option maxRecDepth 20000 in
theorem sModel_choose_53_13 {D : va_G} {cA : FieldType → ClassId} {b : Nat} {E : State → Prop} (o : Nat) (n : Nat) (sh : Nat → qC) (Rf : Nat → Nat → Option Nat) (I : Nat → Nat → Int32) (L : Nat → Nat → Int64) (post : Option Value → qS → Prop) (x1 : Int32) (x2 : Int32) (x3 : Int32) (x4 : Int32) (x5 : Int32) (x6 : Int32) (x7 : Int32) (hok : q_ok (qGG D cA b E)) (hw : WfModel (qGG D cA b E) n sh Rf o) (H : fModel_choose_53_13 D cA b E o n sh Rf I L post x1 x2 x3 x4 x5 x6 x7) : Ev (qGG D cA b E) mModel_choose 7 (0, 0) 53 [(0, .ref o), (1, .int x1), (2, .int x2), (3, .int x3), (4, .int x4), (5, .int x5), (6, .int x6), (7, .int x7)] [] (n, sh, Rf, I, L) post := by
  unfold fModel_choose_53_13 at H
  refine ev_iload_n dModel_choose_53 rfl ?_
  refine ev_aload_n dModel_choose_54 rfl ?_
  refine ev_callV [] [.int x3] (B' := (0, 0)) (B'' := (0, 0)) hok mmModel_towns mk_Model_488 (ci := 12) rfl rfl (woModel hw) rfl (Nat.le_of_ble_eq_true rfl) rfl (Nat.le_of_ble_eq_true rfl) dModel_choose_55 rfl (by decide) H (fun v τ p1 => ?_)
  obtain ⟨r2, I3, L4, rfl, rfl, H⟩ := p1
  refine ev_icmp_ge 192 dModel_choose_58 (by decide) (fun c5 => ?_) (fun c5 => ?_)
  · have H := H.1 c5
    refine ev_iinc dModel_choose_192 rfl (by decide) ?_
    refine ev_goto 43 dModel_choose_195 (by decide) ?_
    exact ev_sub [(0, .ref o), (1, .int x1), (2, .int ((x2 + Int32.ofInt 1))), (3, .int x3), (4, .int x4), (5, .int x5), (6, .int x6), (7, .int x7)] rfl H
  · have H := H.2 c5
    refine ev_aload_n dModel_choose_61 rfl ?_
    refine ev_getR hok fk_Model_269 (woModel hw) (fun _ _ _ => rfl) (wrModel_36 hw) dModel_choose_62 ?_
    refine ev_bipush (16) dModel_choose_65 (by decide) ?_
    refine ev_aload_n dModel_choose_67 rfl ?_
    refine ev_iload_n dModel_choose_68 rfl ?_
    refine ev_callV [.int x3] [.int 16, .ref ((o + 25))] (B' := (0, 0)) (B'' := (0, 0)) hok mmModel_townAt mk_Model_494 (ci := 12) rfl rfl (woModel hw) rfl (Nat.le_of_ble_eq_true rfl) rfl (Nat.le_of_ble_eq_true rfl) dModel_choose_69 rfl (by decide) H (fun v τ p6 => ?_)
    obtain ⟨r7, I8, L9, rfl, rfl, H⟩ := p6
    refine ev_imul dModel_choose_72 ?_
    refine ev_aload_n dModel_choose_73 rfl ?_
    refine ev_iload_n dModel_choose_74 rfl ?_
    refine ev_callV [.int x2] [.int ((16 * r7)), .ref ((o + 25))] (B' := (0, 0)) (B'' := (0, 0)) hok mmModel_fortAt mk_Model_661 (ci := 12) rfl rfl (woModel hw) rfl (Nat.le_of_ble_eq_true rfl) rfl (Nat.le_of_ble_eq_true rfl) dModel_choose_75 rfl (by decide) H (fun v τ p10 => ?_)
    obtain ⟨r11, I12, L13, rfl, rfl, H⟩ := p10
    refine ev_iadd dModel_choose_78 ?_
    obtain ⟨h14, H⟩ := H
    refine ev_iald hok (waModel_36 hw) h14 dModel_choose_79 ?_
    refine ev_istore dModel_choose_80 (by decide) ?_
    refine ev_iload dModel_choose_82 rfl ?_
    refine ev_ldcw (1000000) dModel_choose_84 (q_t7 92 (by decide +kernel) rfl) ?_
    refine ev_icmp_lt 93 dModel_choose_87 (by decide) (fun c15 => ?_) (fun c15 => ?_)
    · have H := H.1 c15
      refine ev_bipush (10) dModel_choose_93 (by decide) ?_
      refine ev_aload_n dModel_choose_95 rfl ?_
      refine ev_getR hok fk_Model_266 (woModel hw) (fun _ _ _ => rfl) (wrModel_33 hw) dModel_choose_96 ?_
      refine ev_iconst (5) dModel_choose_99 (by decide) ?_
      refine ev_aload_n dModel_choose_100 rfl ?_
      refine ev_getI hok fk_Model_147 (woModel hw) (fun _ _ _ => rfl) dModel_choose_101 ?_
      refine ev_imul dModel_choose_104 ?_
      refine ev_iload_n dModel_choose_105 rfl ?_
      refine ev_iadd dModel_choose_106 ?_
      obtain ⟨h16, H⟩ := H
      refine ev_iald hok (waModel_33 hw) h16 dModel_choose_107 ?_
      refine ev_imul dModel_choose_108 ?_
      refine ev_iload dModel_choose_109 rfl ?_
      refine ev_aload_n dModel_choose_111 rfl ?_
      refine ev_getI hok fk_Model_397 (woModel hw) (fun _ _ _ => rfl) dModel_choose_112 ?_
      refine ev_imul dModel_choose_115 ?_
      refine ev_iadd dModel_choose_116 ?_
      refine ev_istore dModel_choose_117 (by decide) ?_
      refine ev_aload_n dModel_choose_119 rfl ?_
      refine ev_aload_n dModel_choose_120 rfl ?_
      refine ev_getI hok fk_Model_400 (woModel hw) (fun _ _ _ => rfl) dModel_choose_121 ?_
      refine ev_aload_n dModel_choose_124 rfl ?_
      refine ev_getR hok fk_Model_664 (woModel hw) (fun _ _ _ => rfl) (wrModel_79 hw) dModel_choose_125 ?_
      refine ev_iload_n dModel_choose_128 rfl ?_
      obtain ⟨h17, H⟩ := H
      refine ev_iald hok (waModel_79 hw) h17 dModel_choose_129 ?_
      refine ev_bipush (10) dModel_choose_130 (by decide) ?_
      refine ev_idiv dModel_choose_132 (by decide) ?_
      refine ev_i2l dModel_choose_133 ?_
      refine ev_callS [.int ((I12 o 70)), .long ((((I12 (o + 46) (x3 : Int32).toNatClampNeg) / 10) : Int32).toInt64)] [.ref o] (B' := (0, 0)) (B'' := (0, 0)) hok mmModel_least mk_Model_651 rfl (Nat.le_of_ble_eq_true rfl) rfl (Nat.le_of_ble_eq_true rfl) dModel_choose_134 rfl (by decide) H (fun v τ p18 => ?_)
      obtain ⟨r19, I20, L21, rfl, rfl, H⟩ := p18
      refine ev_aload_n dModel_choose_137 rfl ?_
      refine ev_getR hok fk_Model_578 (woModel hw) (fun _ _ _ => rfl) (wrModel_101 hw) dModel_choose_138 ?_
      refine ev_iload_n dModel_choose_141 rfl ?_
      obtain ⟨h22, H⟩ := H
      refine ev_lald hok (waModel_101 hw) h22 dModel_choose_142 ?_
      refine ev_iload dModel_choose_143 rfl ?_
      refine ev_callV [.int r19, .long ((L21 (o + 68) (x1 : Int32).toNatClampNeg)), .int (((10 * (I12 (o + 24) (((5 * (I12 o 34)) + x3) : Int32).toNatClampNeg)) + ((I12 (o + 25) (((16 * r7) + r11) : Int32).toNatClampNeg) * (I12 o 69))))] [] (B' := (0, 0)) (B'' := (0, 0)) hok mmModel_affordable mk_Model_667 (ci := 12) rfl rfl (woModel hw) rfl (Nat.le_of_ble_eq_true rfl) rfl (Nat.le_of_ble_eq_true rfl) dModel_choose_145 rfl (by decide) H (fun v τ p23 => ?_)
      obtain ⟨r24, I25, L26, rfl, rfl, H⟩ := p23
      refine ev_istore dModel_choose_148 (by decide) ?_
      refine ev_aload_n dModel_choose_150 rfl ?_
      refine ev_iload_n dModel_choose_151 rfl ?_
      refine ev_iload dModel_choose_152 rfl ?_
      refine ev_callV [.int x2, .int ((I12 (o + 25) (((16 * r7) + r11) : Int32).toNatClampNeg))] [] (B' := (0, 0)) (B'' := (0, 0)) hok mmModel_rateFor mk_Model_671 (ci := 12) rfl rfl (woModel hw) rfl (Nat.le_of_ble_eq_true rfl) rfl (Nat.le_of_ble_eq_true rfl) dModel_choose_154 rfl (by decide) H (fun v τ p27 => ?_)
      obtain ⟨r28, I29, L30, rfl, rfl, H⟩ := p27
      refine ev_istore dModel_choose_157 (by decide) ?_
      refine ev_aload_n dModel_choose_159 rfl ?_
      refine ev_iconst (1) dModel_choose_160 (by decide) ?_
      refine ev_iload_n dModel_choose_161 rfl ?_
      refine ev_iload_n dModel_choose_162 rfl ?_
      refine ev_iload dModel_choose_163 rfl ?_
      refine ev_iload dModel_choose_165 rfl ?_
      refine ev_iload dModel_choose_167 rfl ?_
      refine ev_i2l dModel_choose_169 ?_
      refine ev_iload dModel_choose_170 rfl ?_
      refine ev_i2l dModel_choose_172 ?_
      refine ev_aload_n dModel_choose_173 rfl ?_
      refine ev_getL hok fk_Model_506 (woModel hw) (fun _ _ _ => rfl) dModel_choose_174 ?_
      refine ev_lmul dModel_choose_177 ?_
      refine ev_iload dModel_choose_178 rfl ?_
      refine ev_i2l dModel_choose_180 ?_
      refine ev_lsub dModel_choose_181 ?_
      refine ev_lmul dModel_choose_182 ?_
      refine ev_callV [.int 1, .int x2, .int x3, .int r24, .int r28, .long (((r24 : Int32).toInt64 * (((r28 : Int32).toInt64 * (L30 o 121)) - (((10 * (I12 (o + 24) (((5 * (I12 o 34)) + x3) : Int32).toNatClampNeg)) + ((I12 (o + 25) (((16 * r7) + r11) : Int32).toNatClampNeg) * (I12 o 69))) : Int32).toInt64)))] [] (B' := (0, 0)) (B'' := (0, 0)) hok mmModel_weigh mk_Model_674 (ci := 12) rfl rfl (woModel hw) rfl (Nat.le_of_ble_eq_true rfl) rfl (Nat.le_of_ble_eq_true rfl) dModel_choose_183 rfl (by decide) H (fun v τ p31 => ?_)
      obtain ⟨I33, L34, rfl, rfl, H⟩ := p31
      exact ev_sub [(0, .ref o), (1, .int x1), (2, .int x2), (3, .int x3), (4, .int ((I12 (o + 25) (((16 * r7) + r11) : Int32).toNatClampNeg))), (5, .int (((10 * (I12 (o + 24) (((5 * (I12 o 34)) + x3) : Int32).toNatClampNeg)) + ((I12 (o + 25) (((16 * r7) + r11) : Int32).toNatClampNeg) * (I12 o 69))))), (6, .int r24), (7, .int r28)] rfl (sModel_choose_186 o n sh Rf I33 L34 post x1 x2 x3 (I12 (o + 25) (((16 * r7) + r11) : Int32).toNatClampNeg) ((10 * (I12 (o + 24) (((5 * (I12 o 34)) + x3) : Int32).toNatClampNeg)) + ((I12 (o + 25) (((16 * r7) + r11) : Int32).toNatClampNeg) * (I12 o 69))) r24 r28 hok hw H)
    · have H := H.2 c15
      refine ev_goto 186 dModel_choose_90 (by decide) ?_
      exact ev_sub [(0, .ref o), (1, .int x1), (2, .int x2), (3, .int x3), (4, .int ((I12 (o + 25) (((16 * r7) + r11) : Int32).toNatClampNeg))), (5, .int x5), (6, .int x6), (7, .int x7)] rfl (sModel_choose_186 o n sh Rf I12 L13 post x1 x2 x3 (I12 (o + 25) (((16 * r7) + r11) : Int32).toNatClampNeg) x5 x6 x7 hok hw H)
def fModel_choose_53_14 (D : va_G) (cA : FieldType → ClassId) (b : Nat) (E : State → Prop) (o : Nat) (n : Nat) (sh : Nat → qC) (Rf : Nat → Nat → Option Nat) (I : Nat → Nat → Int32) (L : Nat → Nat → Int64) (post : Option Value → qS → Prop) (x1 : Int32) (x2 : Int32) (x3 : Int32) (x4 : Int32) : Prop :=
  Ev (qGG D cA b E) mModel_towns 0 (0, 0) 0 (lv_args 0 [.ref o]) [] (n, sh, Rf, I, L) (fun v τ => ∃ (r2 : Int32) (I3 : Nat → Nat → Int32) (L4 : Nat → Nat → Int64), v = some (.int r2) ∧ τ = (n, sh, Rf, I3, L4) ∧ ((r2 ≤ x3 → Ev (qGG D cA b E) mModel_choose 7 (0, 0) 43 [(0, .ref o), (1, .int x1), (2, .int ((x2 + Int32.ofInt 1))), (3, .int x3), (4, .int x4)] [] (n, sh, Rf, I3, L4) post) ∧ (¬ r2 ≤ x3 → Ev (qGG D cA b E) mModel_townAt 0 (0, 0) 0 (lv_args 0 [.ref o, .int x3]) [] (n, sh, Rf, I3, L4) (fun v τ => ∃ (r7 : Int32) (I8 : Nat → Nat → Int32) (L9 : Nat → Nat → Int64), v = some (.int r7) ∧ τ = (n, sh, Rf, I8, L9) ∧ Ev (qGG D cA b E) mModel_fortAt 0 (0, 0) 0 (lv_args 0 [.ref o, .int x2]) [] (n, sh, Rf, I8, L9) (fun v τ => ∃ (r11 : Int32) (I12 : Nat → Nat → Int32) (L13 : Nat → Nat → Int64), v = some (.int r11) ∧ τ = (n, sh, Rf, I12, L13) ∧ vp_in ((16 * r7) + r11) 256 ∧ (((I12 (o + 25) (((16 * r7) + r11) : Int32).toNatClampNeg) < 1000000 → vp_in ((5 * (I12 o 34)) + x3) 10 ∧ vp_in x3 5 ∧ Ev (qGG D cA b E) mModel_least 0 (0, 0) 0 (lv_args 0 [.int ((I12 o 70)), .long ((((I12 (o + 46) (x3 : Int32).toNatClampNeg) / 10) : Int32).toInt64)]) [] (n, sh, Rf, I12, L13) (fun v τ => ∃ (r19 : Int32) (I20 : Nat → Nat → Int32) (L21 : Nat → Nat → Int64), v = some (.int r19) ∧ τ = (n, sh, Rf, I20, L21) ∧ vp_in x1 6 ∧ Ev (qGG D cA b E) mModel_affordable 1 (0, 0) 0 (lv_args 0 [.ref o, .int r19, .long ((L21 (o + 68) (x1 : Int32).toNatClampNeg)), .int (((10 * (I12 (o + 24) (((5 * (I12 o 34)) + x3) : Int32).toNatClampNeg)) + ((I12 (o + 25) (((16 * r7) + r11) : Int32).toNatClampNeg) * (I12 o 69))))]) [] (n, sh, Rf, I20, L21) (fun v τ => ∃ (r24 : Int32) (I25 : Nat → Nat → Int32) (L26 : Nat → Nat → Int64), v = some (.int r24) ∧ τ = (n, sh, Rf, I25, L26) ∧ Ev (qGG D cA b E) mModel_rateFor 6 (0, 0) 0 (lv_args 0 [.ref o, .int x2, .int ((I12 (o + 25) (((16 * r7) + r11) : Int32).toNatClampNeg))]) [] (n, sh, Rf, I25, L26) (fun v τ => ∃ (r28 : Int32) (I29 : Nat → Nat → Int32) (L30 : Nat → Nat → Int64), v = some (.int r28) ∧ τ = (n, sh, Rf, I29, L30) ∧ Ev (qGG D cA b E) mModel_weigh 0 (0, 0) 0 (lv_args 0 [.ref o, .int 1, .int x2, .int x3, .int r24, .int r28, .long (((r24 : Int32).toInt64 * (((r28 : Int32).toInt64 * (L30 o 121)) - (((10 * (I12 (o + 24) (((5 * (I12 o 34)) + x3) : Int32).toNatClampNeg)) + ((I12 (o + 25) (((16 * r7) + r11) : Int32).toNatClampNeg) * (I12 o 69))) : Int32).toInt64)))]) [] (n, sh, Rf, I29, L30) (fun v τ => ∃ (I33 : Nat → Nat → Int32) (L34 : Nat → Nat → Int64), v = none ∧ τ = (n, sh, Rf, I33, L34) ∧ fModel_choose_186 D cA b E o n sh Rf I33 L34 post x1 x2 x3 (I12 (o + 25) (((16 * r7) + r11) : Int32).toNatClampNeg) ((10 * (I12 (o + 24) (((5 * (I12 o 34)) + x3) : Int32).toNatClampNeg)) + ((I12 (o + 25) (((16 * r7) + r11) : Int32).toNatClampNeg) * (I12 o 69))) r24 r28))))) ∧ (¬ (I12 (o + 25) (((16 * r7) + r11) : Int32).toNatClampNeg) < 1000000 → fModel_choose_186_9 D cA b E o n sh Rf I12 L13 post x1 x2 x3 (I12 (o + 25) (((16 * r7) + r11) : Int32).toNatClampNeg))))))))
set_option maxHeartbeats 4000000 in
set_option maxRecDepth 20000 in
theorem sModel_choose_53_14 {D : va_G} {cA : FieldType → ClassId} {b : Nat} {E : State → Prop} (o : Nat) (n : Nat) (sh : Nat → qC) (Rf : Nat → Nat → Option Nat) (I : Nat → Nat → Int32) (L : Nat → Nat → Int64) (post : Option Value → qS → Prop) (x1 : Int32) (x2 : Int32) (x3 : Int32) (x4 : Int32) (hok : q_ok (qGG D cA b E)) (hw : WfModel (qGG D cA b E) n sh Rf o) (H : fModel_choose_53_14 D cA b E o n sh Rf I L post x1 x2 x3 x4) : Ev (qGG D cA b E) mModel_choose 7 (0, 0) 53 [(0, .ref o), (1, .int x1), (2, .int x2), (3, .int x3), (4, .int x4)] [] (n, sh, Rf, I, L) post := by
  unfold fModel_choose_53_14 at H
  refine ev_iload_n dModel_choose_53 rfl ?_
  refine ev_aload_n dModel_choose_54 rfl ?_
  refine ev_callV [] [.int x3] (B' := (0, 0)) (B'' := (0, 0)) hok mmModel_towns mk_Model_488 (ci := 12) rfl rfl (woModel hw) rfl (Nat.le_of_ble_eq_true rfl) rfl (Nat.le_of_ble_eq_true rfl) dModel_choose_55 rfl (by decide) H (fun v τ p1 => ?_)
  obtain ⟨r2, I3, L4, rfl, rfl, H⟩ := p1
  refine ev_icmp_ge 192 dModel_choose_58 (by decide) (fun c5 => ?_) (fun c5 => ?_)
  · have H := H.1 c5
    refine ev_iinc dModel_choose_192 rfl (by decide) ?_
    refine ev_goto 43 dModel_choose_195 (by decide) ?_
    exact ev_sub [(0, .ref o), (1, .int x1), (2, .int ((x2 + Int32.ofInt 1))), (3, .int x3), (4, .int x4)] rfl H
  · have H := H.2 c5
    refine ev_aload_n dModel_choose_61 rfl ?_
    refine ev_getR hok fk_Model_269 (woModel hw) (fun _ _ _ => rfl) (wrModel_36 hw) dModel_choose_62 ?_
    refine ev_bipush (16) dModel_choose_65 (by decide) ?_
    refine ev_aload_n dModel_choose_67 rfl ?_
    refine ev_iload_n dModel_choose_68 rfl ?_
    refine ev_callV [.int x3] [.int 16, .ref ((o + 25))] (B' := (0, 0)) (B'' := (0, 0)) hok mmModel_townAt mk_Model_494 (ci := 12) rfl rfl (woModel hw) rfl (Nat.le_of_ble_eq_true rfl) rfl (Nat.le_of_ble_eq_true rfl) dModel_choose_69 rfl (by decide) H (fun v τ p6 => ?_)
    obtain ⟨r7, I8, L9, rfl, rfl, H⟩ := p6
    refine ev_imul dModel_choose_72 ?_
    refine ev_aload_n dModel_choose_73 rfl ?_
    refine ev_iload_n dModel_choose_74 rfl ?_
    refine ev_callV [.int x2] [.int ((16 * r7)), .ref ((o + 25))] (B' := (0, 0)) (B'' := (0, 0)) hok mmModel_fortAt mk_Model_661 (ci := 12) rfl rfl (woModel hw) rfl (Nat.le_of_ble_eq_true rfl) rfl (Nat.le_of_ble_eq_true rfl) dModel_choose_75 rfl (by decide) H (fun v τ p10 => ?_)
    obtain ⟨r11, I12, L13, rfl, rfl, H⟩ := p10
    refine ev_iadd dModel_choose_78 ?_
    obtain ⟨h14, H⟩ := H
    refine ev_iald hok (waModel_36 hw) h14 dModel_choose_79 ?_
    refine ev_istore dModel_choose_80 (by decide) ?_
    refine ev_iload dModel_choose_82 rfl ?_
    refine ev_ldcw (1000000) dModel_choose_84 (q_t7 92 (by decide +kernel) rfl) ?_
    refine ev_icmp_lt 93 dModel_choose_87 (by decide) (fun c15 => ?_) (fun c15 => ?_)
    · have H := H.1 c15
      refine ev_bipush (10) dModel_choose_93 (by decide) ?_
      refine ev_aload_n dModel_choose_95 rfl ?_
      refine ev_getR hok fk_Model_266 (woModel hw) (fun _ _ _ => rfl) (wrModel_33 hw) dModel_choose_96 ?_
      refine ev_iconst (5) dModel_choose_99 (by decide) ?_
      refine ev_aload_n dModel_choose_100 rfl ?_
      refine ev_getI hok fk_Model_147 (woModel hw) (fun _ _ _ => rfl) dModel_choose_101 ?_
      refine ev_imul dModel_choose_104 ?_
      refine ev_iload_n dModel_choose_105 rfl ?_
      refine ev_iadd dModel_choose_106 ?_
      obtain ⟨h16, H⟩ := H
      refine ev_iald hok (waModel_33 hw) h16 dModel_choose_107 ?_
      refine ev_imul dModel_choose_108 ?_
      refine ev_iload dModel_choose_109 rfl ?_
      refine ev_aload_n dModel_choose_111 rfl ?_
      refine ev_getI hok fk_Model_397 (woModel hw) (fun _ _ _ => rfl) dModel_choose_112 ?_
      refine ev_imul dModel_choose_115 ?_
      refine ev_iadd dModel_choose_116 ?_
      refine ev_istore dModel_choose_117 (by decide) ?_
      refine ev_aload_n dModel_choose_119 rfl ?_
      refine ev_aload_n dModel_choose_120 rfl ?_
      refine ev_getI hok fk_Model_400 (woModel hw) (fun _ _ _ => rfl) dModel_choose_121 ?_
      refine ev_aload_n dModel_choose_124 rfl ?_
      refine ev_getR hok fk_Model_664 (woModel hw) (fun _ _ _ => rfl) (wrModel_79 hw) dModel_choose_125 ?_
      refine ev_iload_n dModel_choose_128 rfl ?_
      obtain ⟨h17, H⟩ := H
      refine ev_iald hok (waModel_79 hw) h17 dModel_choose_129 ?_
      refine ev_bipush (10) dModel_choose_130 (by decide) ?_
      refine ev_idiv dModel_choose_132 (by decide) ?_
      refine ev_i2l dModel_choose_133 ?_
      refine ev_callS [.int ((I12 o 70)), .long ((((I12 (o + 46) (x3 : Int32).toNatClampNeg) / 10) : Int32).toInt64)] [.ref o] (B' := (0, 0)) (B'' := (0, 0)) hok mmModel_least mk_Model_651 rfl (Nat.le_of_ble_eq_true rfl) rfl (Nat.le_of_ble_eq_true rfl) dModel_choose_134 rfl (by decide) H (fun v τ p18 => ?_)
      obtain ⟨r19, I20, L21, rfl, rfl, H⟩ := p18
      refine ev_aload_n dModel_choose_137 rfl ?_
      refine ev_getR hok fk_Model_578 (woModel hw) (fun _ _ _ => rfl) (wrModel_101 hw) dModel_choose_138 ?_
      refine ev_iload_n dModel_choose_141 rfl ?_
      obtain ⟨h22, H⟩ := H
      refine ev_lald hok (waModel_101 hw) h22 dModel_choose_142 ?_
      refine ev_iload dModel_choose_143 rfl ?_
      refine ev_callV [.int r19, .long ((L21 (o + 68) (x1 : Int32).toNatClampNeg)), .int (((10 * (I12 (o + 24) (((5 * (I12 o 34)) + x3) : Int32).toNatClampNeg)) + ((I12 (o + 25) (((16 * r7) + r11) : Int32).toNatClampNeg) * (I12 o 69))))] [] (B' := (0, 0)) (B'' := (0, 0)) hok mmModel_affordable mk_Model_667 (ci := 12) rfl rfl (woModel hw) rfl (Nat.le_of_ble_eq_true rfl) rfl (Nat.le_of_ble_eq_true rfl) dModel_choose_145 rfl (by decide) H (fun v τ p23 => ?_)
      obtain ⟨r24, I25, L26, rfl, rfl, H⟩ := p23
      refine ev_istore dModel_choose_148 (by decide) ?_
      refine ev_aload_n dModel_choose_150 rfl ?_
      refine ev_iload_n dModel_choose_151 rfl ?_
      refine ev_iload dModel_choose_152 rfl ?_
      refine ev_callV [.int x2, .int ((I12 (o + 25) (((16 * r7) + r11) : Int32).toNatClampNeg))] [] (B' := (0, 0)) (B'' := (0, 0)) hok mmModel_rateFor mk_Model_671 (ci := 12) rfl rfl (woModel hw) rfl (Nat.le_of_ble_eq_true rfl) rfl (Nat.le_of_ble_eq_true rfl) dModel_choose_154 rfl (by decide) H (fun v τ p27 => ?_)
      obtain ⟨r28, I29, L30, rfl, rfl, H⟩ := p27
      refine ev_istore dModel_choose_157 (by decide) ?_
      refine ev_aload_n dModel_choose_159 rfl ?_
      refine ev_iconst (1) dModel_choose_160 (by decide) ?_
      refine ev_iload_n dModel_choose_161 rfl ?_
      refine ev_iload_n dModel_choose_162 rfl ?_
      refine ev_iload dModel_choose_163 rfl ?_
      refine ev_iload dModel_choose_165 rfl ?_
      refine ev_iload dModel_choose_167 rfl ?_
      refine ev_i2l dModel_choose_169 ?_
      refine ev_iload dModel_choose_170 rfl ?_
      refine ev_i2l dModel_choose_172 ?_
      refine ev_aload_n dModel_choose_173 rfl ?_
      refine ev_getL hok fk_Model_506 (woModel hw) (fun _ _ _ => rfl) dModel_choose_174 ?_
      refine ev_lmul dModel_choose_177 ?_
      refine ev_iload dModel_choose_178 rfl ?_
      refine ev_i2l dModel_choose_180 ?_
      refine ev_lsub dModel_choose_181 ?_
      refine ev_lmul dModel_choose_182 ?_
      refine ev_callV [.int 1, .int x2, .int x3, .int r24, .int r28, .long (((r24 : Int32).toInt64 * (((r28 : Int32).toInt64 * (L30 o 121)) - (((10 * (I12 (o + 24) (((5 * (I12 o 34)) + x3) : Int32).toNatClampNeg)) + ((I12 (o + 25) (((16 * r7) + r11) : Int32).toNatClampNeg) * (I12 o 69))) : Int32).toInt64)))] [] (B' := (0, 0)) (B'' := (0, 0)) hok mmModel_weigh mk_Model_674 (ci := 12) rfl rfl (woModel hw) rfl (Nat.le_of_ble_eq_true rfl) rfl (Nat.le_of_ble_eq_true rfl) dModel_choose_183 rfl (by decide) H (fun v τ p31 => ?_)
      obtain ⟨I33, L34, rfl, rfl, H⟩ := p31
      exact ev_sub [(0, .ref o), (1, .int x1), (2, .int x2), (3, .int x3), (4, .int ((I12 (o + 25) (((16 * r7) + r11) : Int32).toNatClampNeg))), (5, .int (((10 * (I12 (o + 24) (((5 * (I12 o 34)) + x3) : Int32).toNatClampNeg)) + ((I12 (o + 25) (((16 * r7) + r11) : Int32).toNatClampNeg) * (I12 o 69))))), (6, .int r24), (7, .int r28)] rfl (sModel_choose_186 o n sh Rf I33 L34 post x1 x2 x3 (I12 (o + 25) (((16 * r7) + r11) : Int32).toNatClampNeg) ((10 * (I12 (o + 24) (((5 * (I12 o 34)) + x3) : Int32).toNatClampNeg)) + ((I12 (o + 25) (((16 * r7) + r11) : Int32).toNatClampNeg) * (I12 o 69))) r24 r28 hok hw H)
    · have H := H.2 c15
      refine ev_goto 186 dModel_choose_90 (by decide) ?_
      exact ev_sub [(0, .ref o), (1, .int x1), (2, .int x2), (3, .int x3), (4, .int ((I12 (o + 25) (((16 * r7) + r11) : Int32).toNatClampNeg)))] rfl (sModel_choose_186_9 o n sh Rf I12 L13 post x1 x2 x3 (I12 (o + 25) (((16 * r7) + r11) : Int32).toNatClampNeg) hok hw H)
def fModel_choose_43 (D : va_G) (cA : FieldType → ClassId) (b : Nat) (E : State → Prop) (o : Nat) (n : Nat) (sh : Nat → qC) (Rf : Nat → Nat → Option Nat) (I : Nat → Nat → Int32) (L : Nat → Nat → Int64) (post : Option Value → qS → Prop) (x1 : Int32) (x2 : Int32) : Prop :=
  Ev (qGG D cA b E) mModel_forts 0 (0, 0) 0 (lv_args 0 [.ref o]) [] (n, sh, Rf, I, L) (fun v τ => ∃ (r2 : Int32) (I3 : Nat → Nat → Int32) (L4 : Nat → Nat → Int64), v = some (.int r2) ∧ τ = (n, sh, Rf, I3, L4) ∧ ((r2 ≤ x2 → Ev (qGG D cA b E) mModel_choose 7 (0, 0) 200 [(0, .ref o), (1, .int x1), (2, .int 0)] [] (n, sh, Rf, I3, L4) post) ∧ (¬ r2 ≤ x2 → Ev (qGG D cA b E) mModel_choose 7 (0, 0) 53 [(0, .ref o), (1, .int x1), (2, .int x2), (3, .int 0)] [] (n, sh, Rf, I3, L4) post)))
set_option maxHeartbeats 4000000 in
set_option maxRecDepth 20000 in
theorem sModel_choose_43 {D : va_G} {cA : FieldType → ClassId} {b : Nat} {E : State → Prop} (o : Nat) (n : Nat) (sh : Nat → qC) (Rf : Nat → Nat → Option Nat) (I : Nat → Nat → Int32) (L : Nat → Nat → Int64) (post : Option Value → qS → Prop) (x1 : Int32) (x2 : Int32) (hok : q_ok (qGG D cA b E)) (hw : WfModel (qGG D cA b E) n sh Rf o) (H : fModel_choose_43 D cA b E o n sh Rf I L post x1 x2) : Ev (qGG D cA b E) mModel_choose 7 (0, 0) 43 [(0, .ref o), (1, .int x1), (2, .int x2)] [] (n, sh, Rf, I, L) post := by
  unfold fModel_choose_43 at H
  refine ev_iload_n dModel_choose_43 rfl ?_
  refine ev_aload_n dModel_choose_44 rfl ?_
  refine ev_callV [] [.int x2] (B' := (0, 0)) (B'' := (0, 0)) hok mmModel_forts mk_Model_624 (ci := 12) rfl rfl (woModel hw) rfl (Nat.le_of_ble_eq_true rfl) rfl (Nat.le_of_ble_eq_true rfl) dModel_choose_45 rfl (by decide) H (fun v τ p1 => ?_)
  obtain ⟨r2, I3, L4, rfl, rfl, H⟩ := p1
  refine ev_icmp_ge 198 dModel_choose_48 (by decide) (fun c5 => ?_) (fun c5 => ?_)
  · have H := H.1 c5
    refine ev_iconst (0) dModel_choose_198 (by decide) ?_
    refine ev_istore_n dModel_choose_199 (by decide) ?_
    exact ev_sub [(0, .ref o), (1, .int x1), (2, .int 0)] rfl H
  · have H := H.2 c5
    refine ev_iconst (0) dModel_choose_51 (by decide) ?_
    refine ev_istore_n dModel_choose_52 (by decide) ?_
    exact ev_sub [(0, .ref o), (1, .int x1), (2, .int x2), (3, .int 0)] rfl H
def fModel_choose_43_7 (D : va_G) (cA : FieldType → ClassId) (b : Nat) (E : State → Prop) (o : Nat) (n : Nat) (sh : Nat → qC) (Rf : Nat → Nat → Option Nat) (I : Nat → Nat → Int32) (L : Nat → Nat → Int64) (post : Option Value → qS → Prop) (x1 : Int32) (x2 : Int32) (x3 : Int32) : Prop :=
  Ev (qGG D cA b E) mModel_forts 0 (0, 0) 0 (lv_args 0 [.ref o]) [] (n, sh, Rf, I, L) (fun v τ => ∃ (r2 : Int32) (I3 : Nat → Nat → Int32) (L4 : Nat → Nat → Int64), v = some (.int r2) ∧ τ = (n, sh, Rf, I3, L4) ∧ ((r2 ≤ x2 → Ev (qGG D cA b E) mModel_choose 7 (0, 0) 200 [(0, .ref o), (1, .int x1), (2, .int 0), (3, .int x3)] [] (n, sh, Rf, I3, L4) post) ∧ (¬ r2 ≤ x2 → Ev (qGG D cA b E) mModel_choose 7 (0, 0) 53 [(0, .ref o), (1, .int x1), (2, .int x2), (3, .int 0)] [] (n, sh, Rf, I3, L4) post)))
set_option maxHeartbeats 4000000 in
set_option maxRecDepth 20000 in
theorem sModel_choose_43_7 {D : va_G} {cA : FieldType → ClassId} {b : Nat} {E : State → Prop} (o : Nat) (n : Nat) (sh : Nat → qC) (Rf : Nat → Nat → Option Nat) (I : Nat → Nat → Int32) (L : Nat → Nat → Int64) (post : Option Value → qS → Prop) (x1 : Int32) (x2 : Int32) (x3 : Int32) (hok : q_ok (qGG D cA b E)) (hw : WfModel (qGG D cA b E) n sh Rf o) (H : fModel_choose_43_7 D cA b E o n sh Rf I L post x1 x2 x3) : Ev (qGG D cA b E) mModel_choose 7 (0, 0) 43 [(0, .ref o), (1, .int x1), (2, .int x2), (3, .int x3)] [] (n, sh, Rf, I, L) post := by
  unfold fModel_choose_43_7 at H
  refine ev_iload_n dModel_choose_43 rfl ?_
  refine ev_aload_n dModel_choose_44 rfl ?_
  refine ev_callV [] [.int x2] (B' := (0, 0)) (B'' := (0, 0)) hok mmModel_forts mk_Model_624 (ci := 12) rfl rfl (woModel hw) rfl (Nat.le_of_ble_eq_true rfl) rfl (Nat.le_of_ble_eq_true rfl) dModel_choose_45 rfl (by decide) H (fun v τ p1 => ?_)
  obtain ⟨r2, I3, L4, rfl, rfl, H⟩ := p1
  refine ev_icmp_ge 198 dModel_choose_48 (by decide) (fun c5 => ?_) (fun c5 => ?_)
  · have H := H.1 c5
    refine ev_iconst (0) dModel_choose_198 (by decide) ?_
    refine ev_istore_n dModel_choose_199 (by decide) ?_
    exact ev_sub [(0, .ref o), (1, .int x1), (2, .int 0), (3, .int x3)] rfl H
  · have H := H.2 c5
    refine ev_iconst (0) dModel_choose_51 (by decide) ?_
    refine ev_istore_n dModel_choose_52 (by decide) ?_
    exact ev_sub [(0, .ref o), (1, .int x1), (2, .int x2), (3, .int 0)] rfl H
def fModel_choose_43_17 (D : va_G) (cA : FieldType → ClassId) (b : Nat) (E : State → Prop) (o : Nat) (n : Nat) (sh : Nat → qC) (Rf : Nat → Nat → Option Nat) (I : Nat → Nat → Int32) (L : Nat → Nat → Int64) (post : Option Value → qS → Prop) (x1 : Int32) (x2 : Int32) (x3 : Int32) (x4 : Int32) (x5 : Int32) (x6 : Int32) (x7 : Int32) : Prop :=
  Ev (qGG D cA b E) mModel_forts 0 (0, 0) 0 (lv_args 0 [.ref o]) [] (n, sh, Rf, I, L) (fun v τ => ∃ (r2 : Int32) (I3 : Nat → Nat → Int32) (L4 : Nat → Nat → Int64), v = some (.int r2) ∧ τ = (n, sh, Rf, I3, L4) ∧ ((r2 ≤ x2 → Ev (qGG D cA b E) mModel_choose 7 (0, 0) 200 [(0, .ref o), (1, .int x1), (2, .int 0), (3, .int x3), (4, .int x4), (5, .int x5), (6, .int x6), (7, .int x7)] [] (n, sh, Rf, I3, L4) post) ∧ (¬ r2 ≤ x2 → Ev (qGG D cA b E) mModel_choose 7 (0, 0) 53 [(0, .ref o), (1, .int x1), (2, .int x2), (3, .int 0), (4, .int x4), (5, .int x5), (6, .int x6), (7, .int x7)] [] (n, sh, Rf, I3, L4) post)))
set_option maxHeartbeats 4000000 in
set_option maxRecDepth 20000 in
theorem sModel_choose_43_17 {D : va_G} {cA : FieldType → ClassId} {b : Nat} {E : State → Prop} (o : Nat) (n : Nat) (sh : Nat → qC) (Rf : Nat → Nat → Option Nat) (I : Nat → Nat → Int32) (L : Nat → Nat → Int64) (post : Option Value → qS → Prop) (x1 : Int32) (x2 : Int32) (x3 : Int32) (x4 : Int32) (x5 : Int32) (x6 : Int32) (x7 : Int32) (hok : q_ok (qGG D cA b E)) (hw : WfModel (qGG D cA b E) n sh Rf o) (H : fModel_choose_43_17 D cA b E o n sh Rf I L post x1 x2 x3 x4 x5 x6 x7) : Ev (qGG D cA b E) mModel_choose 7 (0, 0) 43 [(0, .ref o), (1, .int x1), (2, .int x2), (3, .int x3), (4, .int x4), (5, .int x5), (6, .int x6), (7, .int x7)] [] (n, sh, Rf, I, L) post := by
  unfold fModel_choose_43_17 at H
  refine ev_iload_n dModel_choose_43 rfl ?_
  refine ev_aload_n dModel_choose_44 rfl ?_
  refine ev_callV [] [.int x2] (B' := (0, 0)) (B'' := (0, 0)) hok mmModel_forts mk_Model_624 (ci := 12) rfl rfl (woModel hw) rfl (Nat.le_of_ble_eq_true rfl) rfl (Nat.le_of_ble_eq_true rfl) dModel_choose_45 rfl (by decide) H (fun v τ p1 => ?_)
  obtain ⟨r2, I3, L4, rfl, rfl, H⟩ := p1
  refine ev_icmp_ge 198 dModel_choose_48 (by decide) (fun c5 => ?_) (fun c5 => ?_)
  · have H := H.1 c5
    refine ev_iconst (0) dModel_choose_198 (by decide) ?_
    refine ev_istore_n dModel_choose_199 (by decide) ?_
    exact ev_sub [(0, .ref o), (1, .int x1), (2, .int 0), (3, .int x3), (4, .int x4), (5, .int x5), (6, .int x6), (7, .int x7)] rfl H
  · have H := H.2 c5
    refine ev_iconst (0) dModel_choose_51 (by decide) ?_
    refine ev_istore_n dModel_choose_52 (by decide) ?_
    exact ev_sub [(0, .ref o), (1, .int x1), (2, .int x2), (3, .int 0), (4, .int x4), (5, .int x5), (6, .int x6), (7, .int x7)] rfl H
def fModel_choose_43_18 (D : va_G) (cA : FieldType → ClassId) (b : Nat) (E : State → Prop) (o : Nat) (n : Nat) (sh : Nat → qC) (Rf : Nat → Nat → Option Nat) (I : Nat → Nat → Int32) (L : Nat → Nat → Int64) (post : Option Value → qS → Prop) (x1 : Int32) (x2 : Int32) (x3 : Int32) (x4 : Int32) : Prop :=
  Ev (qGG D cA b E) mModel_forts 0 (0, 0) 0 (lv_args 0 [.ref o]) [] (n, sh, Rf, I, L) (fun v τ => ∃ (r2 : Int32) (I3 : Nat → Nat → Int32) (L4 : Nat → Nat → Int64), v = some (.int r2) ∧ τ = (n, sh, Rf, I3, L4) ∧ ((r2 ≤ x2 → Ev (qGG D cA b E) mModel_choose 7 (0, 0) 200 [(0, .ref o), (1, .int x1), (2, .int 0), (3, .int x3), (4, .int x4)] [] (n, sh, Rf, I3, L4) post) ∧ (¬ r2 ≤ x2 → Ev (qGG D cA b E) mModel_choose 7 (0, 0) 53 [(0, .ref o), (1, .int x1), (2, .int x2), (3, .int 0), (4, .int x4)] [] (n, sh, Rf, I3, L4) post)))
set_option maxHeartbeats 4000000 in
set_option maxRecDepth 20000 in
theorem sModel_choose_43_18 {D : va_G} {cA : FieldType → ClassId} {b : Nat} {E : State → Prop} (o : Nat) (n : Nat) (sh : Nat → qC) (Rf : Nat → Nat → Option Nat) (I : Nat → Nat → Int32) (L : Nat → Nat → Int64) (post : Option Value → qS → Prop) (x1 : Int32) (x2 : Int32) (x3 : Int32) (x4 : Int32) (hok : q_ok (qGG D cA b E)) (hw : WfModel (qGG D cA b E) n sh Rf o) (H : fModel_choose_43_18 D cA b E o n sh Rf I L post x1 x2 x3 x4) : Ev (qGG D cA b E) mModel_choose 7 (0, 0) 43 [(0, .ref o), (1, .int x1), (2, .int x2), (3, .int x3), (4, .int x4)] [] (n, sh, Rf, I, L) post := by
  unfold fModel_choose_43_18 at H
  refine ev_iload_n dModel_choose_43 rfl ?_
  refine ev_aload_n dModel_choose_44 rfl ?_
  refine ev_callV [] [.int x2] (B' := (0, 0)) (B'' := (0, 0)) hok mmModel_forts mk_Model_624 (ci := 12) rfl rfl (woModel hw) rfl (Nat.le_of_ble_eq_true rfl) rfl (Nat.le_of_ble_eq_true rfl) dModel_choose_45 rfl (by decide) H (fun v τ p1 => ?_)
  obtain ⟨r2, I3, L4, rfl, rfl, H⟩ := p1
  refine ev_icmp_ge 198 dModel_choose_48 (by decide) (fun c5 => ?_) (fun c5 => ?_)
  · have H := H.1 c5
    refine ev_iconst (0) dModel_choose_198 (by decide) ?_
    refine ev_istore_n dModel_choose_199 (by decide) ?_
    exact ev_sub [(0, .ref o), (1, .int x1), (2, .int 0), (3, .int x3), (4, .int x4)] rfl H
  · have H := H.2 c5
    refine ev_iconst (0) dModel_choose_51 (by decide) ?_
    refine ev_istore_n dModel_choose_52 (by decide) ?_
    exact ev_sub [(0, .ref o), (1, .int x1), (2, .int x2), (3, .int 0), (4, .int x4)] rfl H
def fModel_choose_0 (D : va_G) (cA : FieldType → ClassId) (b : Nat) (E : State → Prop) (o : Nat) (n : Nat) (sh : Nat → qC) (Rf : Nat → Nat → Option Nat) (I : Nat → Nat → Int32) (L : Nat → Nat → Int64) (post : Option Value → qS → Prop) (x1 : Int32) : Prop :=
  ∀ I1 : Nat → Nat → Int32, q_u I o 122 0 = I1 → ∀ I2 : Nat → Nat → Int32, q_u I1 o 123 (-1) = I2 → ∀ I3 : Nat → Nat → Int32, q_u I2 o 124 (-1) = I3 → ∀ I4 : Nat → Nat → Int32, q_u I3 o 125 0 = I4 → ∀ L5 : Nat → Nat → Int64, q_u L o 128 0 = L5 → Ev (qGG D cA b E) mModel_bestPan 3 (0, 0) 0 (lv_args 0 [.ref o]) [] (n, sh, Rf, I4, L5) (fun v τ => ∃ (r7 : Int32) (I8 : Nat → Nat → Int32) (L9 : Nat → Nat → Int64), v = some (.int r7) ∧ τ = (n, sh, Rf, I8, L9) ∧ ∀ I10 : Nat → Nat → Int32, q_u I8 o 127 r7 = I10 → ((0 ≤ (I10 o 127) → Ev (qGG D cA b E) mModel_choose 7 (0, 0) 43 [(0, .ref o), (1, .int x1), (2, .int 0)] [] (n, sh, Rf, I10, L9) post) ∧ (¬ 0 ≤ (I10 o 127) → post none (n, sh, Rf, I10, L9))))
set_option maxHeartbeats 4000000 in
set_option maxRecDepth 20000 in
theorem sModel_choose_0 {D : va_G} {cA : FieldType → ClassId} {b : Nat} {E : State → Prop} (o : Nat) (n : Nat) (sh : Nat → qC) (Rf : Nat → Nat → Option Nat) (I : Nat → Nat → Int32) (L : Nat → Nat → Int64) (post : Option Value → qS → Prop) (x1 : Int32) (hok : q_ok (qGG D cA b E)) (hw : WfModel (qGG D cA b E) n sh Rf o) (H : fModel_choose_0 D cA b E o n sh Rf I L post x1) : Ev (qGG D cA b E) mModel_choose 7 (0, 0) 0 [(0, .ref o), (1, .int x1)] [] (n, sh, Rf, I, L) post := by
  unfold fModel_choose_0 at H
  refine ev_aload_n dModel_choose_0 rfl ?_
  refine ev_iconst (0) dModel_choose_1 (by decide) ?_
  refine ev_putI hok fk_Model_636 (woModel hw) (fun _ _ _ => rfl) rfl rfl dModel_choose_2 ?_
  generalize eI1 : q_u I o 122 0 = I1
  have H := H I1 eI1
  refine ev_aload_n dModel_choose_5 rfl ?_
  refine ev_iconst (-1) dModel_choose_6 (by decide) ?_
  refine ev_putI hok fk_Model_639 (woModel hw) (fun _ _ _ => rfl) rfl rfl dModel_choose_7 ?_
  generalize eI2 : q_u I1 o 123 (-1) = I2
  have H := H I2 eI2
  refine ev_aload_n dModel_choose_10 rfl ?_
  refine ev_iconst (-1) dModel_choose_11 (by decide) ?_
  refine ev_putI hok fk_Model_642 (woModel hw) (fun _ _ _ => rfl) rfl rfl dModel_choose_12 ?_
  generalize eI3 : q_u I2 o 124 (-1) = I3
  have H := H I3 eI3
  refine ev_aload_n dModel_choose_15 rfl ?_
  refine ev_iconst (0) dModel_choose_16 (by decide) ?_
  refine ev_putI hok fk_Model_645 (woModel hw) (fun _ _ _ => rfl) rfl rfl dModel_choose_17 ?_
  generalize eI4 : q_u I3 o 125 0 = I4
  have H := H I4 eI4
  refine ev_aload_n dModel_choose_20 rfl ?_
  refine ev_lconst 0 dModel_choose_21 (by decide) ?_
  refine ev_putL hok fk_Model_633 (woModel hw) (fun _ _ _ => rfl) rfl rfl dModel_choose_22 ?_
  generalize eL5 : q_u L o 128 0 = L5
  have H := H L5 eL5
  refine ev_aload_n dModel_choose_25 rfl ?_
  refine ev_aload_n dModel_choose_26 rfl ?_
  refine ev_callV [] [.ref o] (B' := (0, 0)) (B'' := (0, 0)) hok mmModel_bestPan mk_Model_655 (ci := 12) rfl rfl (woModel hw) rfl (Nat.le_of_ble_eq_true rfl) rfl (Nat.le_of_ble_eq_true rfl) dModel_choose_27 rfl (by decide) H (fun v τ p6 => ?_)
  obtain ⟨r7, I8, L9, rfl, rfl, H⟩ := p6
  refine ev_putI hok fk_Model_658 (woModel hw) (fun _ _ _ => rfl) rfl rfl dModel_choose_30 ?_
  generalize eI10 : q_u I8 o 127 r7 = I10
  have H := H I10 eI10
  refine ev_aload_n dModel_choose_33 rfl ?_
  refine ev_getI hok fk_Model_658 (woModel hw) (fun _ _ _ => rfl) dModel_choose_34 ?_
  refine ev_if_ge 41 dModel_choose_37 (by decide) (fun c11 => ?_) (fun c11 => ?_)
  · have H := H.1 c11
    refine ev_iconst (0) dModel_choose_41 (by decide) ?_
    refine ev_istore_n dModel_choose_42 (by decide) ?_
    exact ev_sub [(0, .ref o), (1, .int x1), (2, .int 0)] rfl H
  · have H := H.2 c11
    exact ev_vret rfl dModel_choose_40 H
