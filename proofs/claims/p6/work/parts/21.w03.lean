/-! Walks of the reference: by program. -/
def fModel_wrong_0 (D : va_G) (cA : FieldType → ClassId) (b : Nat) (E : State → Prop) (o : Nat) (n : Nat) (sh : Nat → qC) (Rf : Nat → Nat → Option Nat) (I : Nat → Nat → Int32) (L : Nat → Nat → Int64) (post : Option Value → qS → Prop)  : Prop :=
  ((¬ (I o 8) = 1 → Ev (qGG D cA b E) mModel_fails 0 (0, 0) 0 (lv_args 0 [.ref o, .int 2, .int ((I o 6))]) [] (n, sh, Rf, I, L) (fun v τ => ∃ (I4 : Nat → Nat → Int32) (L5 : Nat → Nat → Int64), v = none ∧ τ = (n, sh, Rf, I4, L5) ∧ post none (n, sh, Rf, I4, L5))) ∧ ((I o 8) = 1 → Ev (qGG D cA b E) mModel_fails 0 (0, 0) 0 (lv_args 0 [.ref o, .int 1, .int ((I o 6))]) [] (n, sh, Rf, I, L) (fun v τ => ∃ (I8 : Nat → Nat → Int32) (L9 : Nat → Nat → Int64), v = none ∧ τ = (n, sh, Rf, I8, L9) ∧ post none (n, sh, Rf, I8, L9))))
set_option maxHeartbeats 4000000 in
set_option maxRecDepth 20000 in
theorem sModel_wrong_0 {D : va_G} {cA : FieldType → ClassId} {b : Nat} {E : State → Prop} (o : Nat) (n : Nat) (sh : Nat → qC) (Rf : Nat → Nat → Option Nat) (I : Nat → Nat → Int32) (L : Nat → Nat → Int64) (post : Option Value → qS → Prop)  (hok : q_ok (qGG D cA b E)) (hw : WfModel (qGG D cA b E) n sh Rf o) (H : fModel_wrong_0 D cA b E o n sh Rf I L post ) : Ev (qGG D cA b E) mModel_wrong 1 (0, 0) 0 [(0, .ref o)] [] (n, sh, Rf, I, L) post := by
  unfold fModel_wrong_0 at H
  refine ev_aload_n dModel_wrong_0 rfl ?_
  refine ev_aload_n dModel_wrong_1 rfl ?_
  refine ev_getI hok fk_Model_98 (woModel hw) (fun _ _ _ => rfl) dModel_wrong_2 ?_
  refine ev_iconst (1) dModel_wrong_5 (by decide) ?_
  refine ev_icmp_ne 13 dModel_wrong_6 (by decide) (fun c1 => ?_) (fun c1 => ?_)
  · have H := H.1 c1
    refine ev_iconst (2) dModel_wrong_13 (by decide) ?_
    refine ev_aload_n dModel_wrong_14 rfl ?_
    refine ev_getI hok fk_Model_95 (woModel hw) (fun _ _ _ => rfl) dModel_wrong_15 ?_
    refine ev_callV [.int 2, .int ((I o 6))] [] (B' := (0, 0)) (B'' := (0, 0)) hok mmModel_fails mk_Model_122 (ci := 12) rfl rfl (woModel hw) rfl (Nat.le_of_ble_eq_true rfl) rfl (Nat.le_of_ble_eq_true rfl) dModel_wrong_18 rfl (by decide) H (fun v τ p2 => ?_)
    obtain ⟨I4, L5, rfl, rfl, H⟩ := p2
    exact ev_vret rfl dModel_wrong_21 H
  · have H := H.2 c1
    refine ev_iconst (1) dModel_wrong_9 (by decide) ?_
    refine ev_goto 14 dModel_wrong_10 (by decide) ?_
    refine ev_aload_n dModel_wrong_14 rfl ?_
    refine ev_getI hok fk_Model_95 (woModel hw) (fun _ _ _ => rfl) dModel_wrong_15 ?_
    refine ev_callV [.int 1, .int ((I o 6))] [] (B' := (0, 0)) (B'' := (0, 0)) hok mmModel_fails mk_Model_122 (ci := 12) rfl rfl (woModel hw) rfl (Nat.le_of_ble_eq_true rfl) rfl (Nat.le_of_ble_eq_true rfl) dModel_wrong_18 rfl (by decide) H (fun v τ p6 => ?_)
    obtain ⟨I8, L9, rfl, rfl, H⟩ := p6
    exact ev_vret rfl dModel_wrong_21 H
def fModel_beginMonth_36 (D : va_G) (cA : FieldType → ClassId) (b : Nat) (E : State → Prop) (o : Nat) (n : Nat) (sh : Nat → qC) (Rf : Nat → Nat → Option Nat) (I : Nat → Nat → Int32) (L : Nat → Nat → Int64) (post : Option Value → qS → Prop) (x1 : Int32) : Prop :=
  (((I o 104) ≤ x1 → post none (n, sh, Rf, I, L)) ∧ (¬ (I o 104) ≤ x1 → Ev (qGG D cA b E) mModel_forge 1 (0, 0) 0 (lv_args 0 [.ref o, .int x1]) [] (n, sh, Rf, I, L) (fun v τ => ∃ (I4 : Nat → Nat → Int32) (L5 : Nat → Nat → Int64), v = none ∧ τ = (n, sh, Rf, I4, L5) ∧ Ev (qGG D cA b E) mModel_beginMonth 2 (0, 0) 36 [(0, .ref o), (1, .int ((x1 + Int32.ofInt 1)))] [] (n, sh, Rf, I4, L5) post)))
set_option maxHeartbeats 4000000 in
set_option maxRecDepth 20000 in
theorem sModel_beginMonth_36 {D : va_G} {cA : FieldType → ClassId} {b : Nat} {E : State → Prop} (o : Nat) (n : Nat) (sh : Nat → qC) (Rf : Nat → Nat → Option Nat) (I : Nat → Nat → Int32) (L : Nat → Nat → Int64) (post : Option Value → qS → Prop) (x1 : Int32) (hok : q_ok (qGG D cA b E)) (hw : WfModel (qGG D cA b E) n sh Rf o) (H : fModel_beginMonth_36 D cA b E o n sh Rf I L post x1) : Ev (qGG D cA b E) mModel_beginMonth 2 (0, 0) 36 [(0, .ref o), (1, .int x1)] [] (n, sh, Rf, I, L) post := by
  unfold fModel_beginMonth_36 at H
  refine ev_iload_n dModel_beginMonth_36 rfl ?_
  refine ev_aload_n dModel_beginMonth_37 rfl ?_
  refine ev_getI hok fk_Model_454 (woModel hw) (fun _ _ _ => rfl) dModel_beginMonth_38 ?_
  refine ev_icmp_ge 55 dModel_beginMonth_41 (by decide) (fun c1 => ?_) (fun c1 => ?_)
  · have H := H.1 c1
    exact ev_vret rfl dModel_beginMonth_55 H
  · have H := H.2 c1
    refine ev_aload_n dModel_beginMonth_44 rfl ?_
    refine ev_iload_n dModel_beginMonth_45 rfl ?_
    refine ev_callV [.int x1] [] (B' := (0, 0)) (B'' := (0, 0)) hok mmModel_forge mk_Model_537 (ci := 12) rfl rfl (woModel hw) rfl (Nat.le_of_ble_eq_true rfl) rfl (Nat.le_of_ble_eq_true rfl) dModel_beginMonth_46 rfl (by decide) H (fun v τ p2 => ?_)
    obtain ⟨I4, L5, rfl, rfl, H⟩ := p2
    refine ev_iinc dModel_beginMonth_49 rfl (by decide) ?_
    refine ev_goto 36 dModel_beginMonth_52 (by decide) ?_
    exact ev_sub [(0, .ref o), (1, .int ((x1 + Int32.ofInt 1)))] rfl H
def fModel_beginMonth_28 (D : va_G) (cA : FieldType → ClassId) (b : Nat) (E : State → Prop) (o : Nat) (n : Nat) (sh : Nat → qC) (Rf : Nat → Nat → Option Nat) (I : Nat → Nat → Int32) (L : Nat → Nat → Int64) (post : Option Value → qS → Prop) (x1 : Int32) : Prop :=
  Ev (qGG D cA b E) mModel_beginMonth 2 (0, 0) 2 [(0, .ref o), (1, .int ((x1 + Int32.ofInt 1)))] [] (n, sh, Rf, I, L) post
set_option maxHeartbeats 4000000 in
set_option maxRecDepth 20000 in
theorem sModel_beginMonth_28 {D : va_G} {cA : FieldType → ClassId} {b : Nat} {E : State → Prop} (o : Nat) (n : Nat) (sh : Nat → qC) (Rf : Nat → Nat → Option Nat) (I : Nat → Nat → Int32) (L : Nat → Nat → Int64) (post : Option Value → qS → Prop) (x1 : Int32) (hok : q_ok (qGG D cA b E)) (hw : WfModel (qGG D cA b E) n sh Rf o) (H : fModel_beginMonth_28 D cA b E o n sh Rf I L post x1) : Ev (qGG D cA b E) mModel_beginMonth 2 (0, 0) 28 [(0, .ref o), (1, .int x1)] [] (n, sh, Rf, I, L) post := by
  unfold fModel_beginMonth_28 at H
  refine ev_iinc dModel_beginMonth_28 rfl (by decide) ?_
  refine ev_goto 2 dModel_beginMonth_31 (by decide) ?_
  exact ev_sub [(0, .ref o), (1, .int ((x1 + Int32.ofInt 1)))] rfl H
def fModel_beginMonth_2 (D : va_G) (cA : FieldType → ClassId) (b : Nat) (E : State → Prop) (o : Nat) (n : Nat) (sh : Nat → qC) (Rf : Nat → Nat → Option Nat) (I : Nat → Nat → Int32) (L : Nat → Nat → Int64) (post : Option Value → qS → Prop) (x1 : Int32) : Prop :=
  (((I o 66) ≤ x1 → Ev (qGG D cA b E) mModel_beginMonth 2 (0, 0) 36 [(0, .ref o), (1, .int 0)] [] (n, sh, Rf, I, L) post) ∧ (¬ (I o 66) ≤ x1 → vp_in x1 6 ∧ ((¬ (I (o + 49) (x1 : Int32).toNatClampNeg) = (I o 57) → fModel_beginMonth_28 D cA b E o n sh Rf I L post x1) ∧ ((I (o + 49) (x1 : Int32).toNatClampNeg) = (I o 57) → Ev (qGG D cA b E) mModel_bury 1 (0, 0) 0 (lv_args 0 [.ref o, .int x1]) [] (n, sh, Rf, I, L) (fun v τ => ∃ (I6 : Nat → Nat → Int32) (L7 : Nat → Nat → Int64), v = none ∧ τ = (n, sh, Rf, I6, L7) ∧ fModel_beginMonth_28 D cA b E o n sh Rf I6 L7 post x1)))))
set_option maxHeartbeats 4000000 in
set_option maxRecDepth 20000 in
theorem sModel_beginMonth_2 {D : va_G} {cA : FieldType → ClassId} {b : Nat} {E : State → Prop} (o : Nat) (n : Nat) (sh : Nat → qC) (Rf : Nat → Nat → Option Nat) (I : Nat → Nat → Int32) (L : Nat → Nat → Int64) (post : Option Value → qS → Prop) (x1 : Int32) (hok : q_ok (qGG D cA b E)) (hw : WfModel (qGG D cA b E) n sh Rf o) (H : fModel_beginMonth_2 D cA b E o n sh Rf I L post x1) : Ev (qGG D cA b E) mModel_beginMonth 2 (0, 0) 2 [(0, .ref o), (1, .int x1)] [] (n, sh, Rf, I, L) post := by
  unfold fModel_beginMonth_2 at H
  refine ev_iload_n dModel_beginMonth_2 rfl ?_
  refine ev_aload_n dModel_beginMonth_3 rfl ?_
  refine ev_getI hok fk_Model_387 (woModel hw) (fun _ _ _ => rfl) dModel_beginMonth_4 ?_
  refine ev_icmp_ge 34 dModel_beginMonth_7 (by decide) (fun c1 => ?_) (fun c1 => ?_)
  · have H := H.1 c1
    refine ev_iconst (0) dModel_beginMonth_34 (by decide) ?_
    refine ev_istore_n dModel_beginMonth_35 (by decide) ?_
    exact ev_sub [(0, .ref o), (1, .int 0)] rfl H
  · have H := H.2 c1
    refine ev_aload_n dModel_beginMonth_10 rfl ?_
    refine ev_getR hok fk_Model_522 (woModel hw) (fun _ _ _ => rfl) (wrModel_82 hw) dModel_beginMonth_11 ?_
    refine ev_iload_n dModel_beginMonth_14 rfl ?_
    obtain ⟨h2, H⟩ := H
    refine ev_iald hok (waModel_82 hw) h2 dModel_beginMonth_15 ?_
    refine ev_aload_n dModel_beginMonth_16 rfl ?_
    refine ev_getI hok fk_Model_348 (woModel hw) (fun _ _ _ => rfl) dModel_beginMonth_17 ?_
    refine ev_icmp_ne 28 dModel_beginMonth_20 (by decide) (fun c3 => ?_) (fun c3 => ?_)
    · have H := H.1 c3
      exact ev_sub [(0, .ref o), (1, .int x1)] rfl (sModel_beginMonth_28 o n sh Rf I L post x1 hok hw H)
    · have H := H.2 c3
      refine ev_aload_n dModel_beginMonth_23 rfl ?_
      refine ev_iload_n dModel_beginMonth_24 rfl ?_
      refine ev_callV [.int x1] [] (B' := (0, 0)) (B'' := (0, 0)) hok mmModel_bury mk_Model_572 (ci := 12) rfl rfl (woModel hw) rfl (Nat.le_of_ble_eq_true rfl) rfl (Nat.le_of_ble_eq_true rfl) dModel_beginMonth_25 rfl (by decide) H (fun v τ p4 => ?_)
      obtain ⟨I6, L7, rfl, rfl, H⟩ := p4
      exact ev_sub [(0, .ref o), (1, .int x1)] rfl (sModel_beginMonth_28 o n sh Rf I6 L7 post x1 hok hw H)
def fModel_beginMonth_0 (D : va_G) (cA : FieldType → ClassId) (b : Nat) (E : State → Prop) (o : Nat) (n : Nat) (sh : Nat → qC) (Rf : Nat → Nat → Option Nat) (I : Nat → Nat → Int32) (L : Nat → Nat → Int64) (post : Option Value → qS → Prop)  : Prop :=
  Ev (qGG D cA b E) mModel_beginMonth 2 (0, 0) 2 [(0, .ref o), (1, .int 0)] [] (n, sh, Rf, I, L) post
set_option maxHeartbeats 4000000 in
set_option maxRecDepth 20000 in
theorem sModel_beginMonth_0 {D : va_G} {cA : FieldType → ClassId} {b : Nat} {E : State → Prop} (o : Nat) (n : Nat) (sh : Nat → qC) (Rf : Nat → Nat → Option Nat) (I : Nat → Nat → Int32) (L : Nat → Nat → Int64) (post : Option Value → qS → Prop)  (hok : q_ok (qGG D cA b E)) (hw : WfModel (qGG D cA b E) n sh Rf o) (H : fModel_beginMonth_0 D cA b E o n sh Rf I L post ) : Ev (qGG D cA b E) mModel_beginMonth 2 (0, 0) 0 [(0, .ref o)] [] (n, sh, Rf, I, L) post := by
  unfold fModel_beginMonth_0 at H
  refine ev_iconst (0) dModel_beginMonth_0 (by decide) ?_
  refine ev_istore_n dModel_beginMonth_1 (by decide) ?_
  exact ev_sub [(0, .ref o), (1, .int 0)] rfl H
def fModel_dead_0 (D : va_G) (cA : FieldType → ClassId) (b : Nat) (E : State → Prop) (o : Nat) (n : Nat) (sh : Nat → qC) (Rf : Nat → Nat → Option Nat) (I : Nat → Nat → Int32) (L : Nat → Nat → Int64) (post : Option Value → qS → Prop) (x1 : Int32) (x2 : Int32) (x3 : Int32) : Prop :=
  Ev (qGG D cA b E) mModel_isIn 0 (0, 0) 0 (lv_args 0 [.int x1, .int 0, .int (((I o 66) - 1))]) [] (n, sh, Rf, I, L) (fun v τ => ∃ (r2 : Int32) (I3 : Nat → Nat → Int32) (L4 : Nat → Nat → Int64), v = some (.int r2) ∧ τ = (n, sh, Rf, I3, L4) ∧ ((r2 = 0 → post (some (.int ((-1)))) (n, sh, Rf, I3, L4)) ∧ (¬ r2 = 0 → Ev (qGG D cA b E) mModel_isMonth 1 (0, 0) 0 (lv_args 0 [.int x2]) [] (n, sh, Rf, I3, L4) (fun v τ => ∃ (r7 : Int32) (I8 : Nat → Nat → Int32) (L9 : Nat → Nat → Int64), v = some (.int r7) ∧ τ = (n, sh, Rf, I8, L9) ∧ ((r7 = 0 → post (some (.int ((-1)))) (n, sh, Rf, I8, L9)) ∧ (¬ r7 = 0 → Ev (qGG D cA b E) mModel_isIn 0 (0, 0) 0 (lv_args 0 [.int x3, .int ((-1)), .int (((I8 o 66) - 1))]) [] (n, sh, Rf, I8, L9) (fun v τ => ∃ (r12 : Int32) (I13 : Nat → Nat → Int32) (L14 : Nat → Nat → Int64), v = some (.int r12) ∧ τ = (n, sh, Rf, I13, L14) ∧ ((r12 = 0 → post (some (.int ((-1)))) (n, sh, Rf, I13, L14)) ∧ (¬ r12 = 0 → ((x3 = x1 → post (some (.int ((-1)))) (n, sh, Rf, I13, L14)) ∧ (¬ x3 = x1 → Ev (qGG D cA b E) mModel_fact 0 (0, 0) 0 (lv_args 0 [.ref o, .int 2, .int x1, .int x2, .int x3]) [] (n, sh, Rf, I13, L14) (fun v τ => ∃ (r18 : Int32) (I19 : Nat → Nat → Int32) (L20 : Nat → Nat → Int64), v = some (.int r18) ∧ τ = (n, sh, Rf, I19, L20) ∧ post (some (.int r18)) (n, sh, Rf, I19, L20)))))))))))))
set_option maxHeartbeats 4000000 in
set_option maxRecDepth 20000 in
theorem sModel_dead_0 {D : va_G} {cA : FieldType → ClassId} {b : Nat} {E : State → Prop} (o : Nat) (n : Nat) (sh : Nat → qC) (Rf : Nat → Nat → Option Nat) (I : Nat → Nat → Int32) (L : Nat → Nat → Int64) (post : Option Value → qS → Prop) (x1 : Int32) (x2 : Int32) (x3 : Int32) (hok : q_ok (qGG D cA b E)) (hw : WfModel (qGG D cA b E) n sh Rf o) (H : fModel_dead_0 D cA b E o n sh Rf I L post x1 x2 x3) : Ev (qGG D cA b E) mModel_dead 2 (0, 0) 0 [(0, .ref o), (1, .int x1), (2, .int x2), (3, .int x3)] [] (n, sh, Rf, I, L) post := by
  unfold fModel_dead_0 at H
  refine ev_iload_n dModel_dead_0 rfl ?_
  refine ev_iconst (0) dModel_dead_1 (by decide) ?_
  refine ev_aload_n dModel_dead_2 rfl ?_
  refine ev_getI hok fk_Model_387 (woModel hw) (fun _ _ _ => rfl) dModel_dead_3 ?_
  refine ev_iconst (1) dModel_dead_6 (by decide) ?_
  refine ev_isub dModel_dead_7 ?_
  refine ev_callS [.int x1, .int 0, .int (((I o 66) - 1))] [] (B' := (0, 0)) (B'' := (0, 0)) hok mmModel_isIn mk_Model_393 rfl (Nat.le_of_ble_eq_true rfl) rfl (Nat.le_of_ble_eq_true rfl) dModel_dead_8 rfl (by decide) H (fun v τ p1 => ?_)
  obtain ⟨r2, I3, L4, rfl, rfl, H⟩ := p1
  refine ev_if_eq 51 dModel_dead_11 (by decide) (fun c5 => ?_) (fun c5 => ?_)
  · have H := H.1 c5
    refine ev_iconst (-1) dModel_dead_51 (by decide) ?_
    exact ev_iret rfl dModel_dead_52 H
  · have H := H.2 c5
    refine ev_iload_n dModel_dead_14 rfl ?_
    refine ev_callS [.int x2] [] (B' := (0, 0)) (B'' := (0, 0)) hok mmModel_isMonth mk_Model_436 rfl (Nat.le_of_ble_eq_true rfl) rfl (Nat.le_of_ble_eq_true rfl) dModel_dead_15 rfl (by decide) H (fun v τ p6 => ?_)
    obtain ⟨r7, I8, L9, rfl, rfl, H⟩ := p6
    refine ev_if_eq 51 dModel_dead_18 (by decide) (fun c10 => ?_) (fun c10 => ?_)
    · have H := H.1 c10
      refine ev_iconst (-1) dModel_dead_51 (by decide) ?_
      exact ev_iret rfl dModel_dead_52 H
    · have H := H.2 c10
      refine ev_iload_n dModel_dead_21 rfl ?_
      refine ev_iconst (-1) dModel_dead_22 (by decide) ?_
      refine ev_aload_n dModel_dead_23 rfl ?_
      refine ev_getI hok fk_Model_387 (woModel hw) (fun _ _ _ => rfl) dModel_dead_24 ?_
      refine ev_iconst (1) dModel_dead_27 (by decide) ?_
      refine ev_isub dModel_dead_28 ?_
      refine ev_callS [.int x3, .int ((-1)), .int (((I8 o 66) - 1))] [] (B' := (0, 0)) (B'' := (0, 0)) hok mmModel_isIn mk_Model_393 rfl (Nat.le_of_ble_eq_true rfl) rfl (Nat.le_of_ble_eq_true rfl) dModel_dead_29 rfl (by decide) H (fun v τ p11 => ?_)
      obtain ⟨r12, I13, L14, rfl, rfl, H⟩ := p11
      refine ev_if_eq 51 dModel_dead_32 (by decide) (fun c15 => ?_) (fun c15 => ?_)
      · have H := H.1 c15
        refine ev_iconst (-1) dModel_dead_51 (by decide) ?_
        exact ev_iret rfl dModel_dead_52 H
      · have H := H.2 c15
        refine ev_iload_n dModel_dead_35 rfl ?_
        refine ev_iload_n dModel_dead_36 rfl ?_
        refine ev_icmp_eq 51 dModel_dead_37 (by decide) (fun c16 => ?_) (fun c16 => ?_)
        · have H := H.1 c16
          refine ev_iconst (-1) dModel_dead_51 (by decide) ?_
          exact ev_iret rfl dModel_dead_52 H
        · have H := H.2 c16
          refine ev_aload_n dModel_dead_40 rfl ?_
          refine ev_iconst (2) dModel_dead_41 (by decide) ?_
          refine ev_iload_n dModel_dead_42 rfl ?_
          refine ev_iload_n dModel_dead_43 rfl ?_
          refine ev_iload_n dModel_dead_44 rfl ?_
          refine ev_callV [.int 2, .int x1, .int x2, .int x3] [] (B' := (0, 0)) (B'' := (0, 0)) hok mmModel_fact mk_Model_439 (ci := 12) rfl rfl (woModel hw) rfl (Nat.le_of_ble_eq_true rfl) rfl (Nat.le_of_ble_eq_true rfl) dModel_dead_45 rfl (by decide) H (fun v τ p17 => ?_)
          obtain ⟨r18, I19, L20, rfl, rfl, H⟩ := p17
          refine ev_goto 52 dModel_dead_48 (by decide) ?_
          exact ev_iret rfl dModel_dead_52 H
def fModel_drawOne_164 (D : va_G) (cA : FieldType → ClassId) (b : Nat) (E : State → Prop) (o : Nat) (n : Nat) (sh : Nat → qC) (Rf : Nat → Nat → Option Nat) (I : Nat → Nat → Int32) (L : Nat → Nat → Int64) (post : Option Value → qS → Prop) (x1 : Int32) (x2 : Int32) (x3 : Int32) (x4 : Int32) (x5 : Int64) (z0 : Int64) (z1 : Int64) (z2 : Int32) : Prop :=
  vp_in z2 6 ∧ ∀ L1 : Nat → Nat → Int64, q_u L (o + 68) (z2 : Int32).toNatClampNeg (z1 - z0) = L1 → vp_in x1 2000 ∧ vp_in x1 2000 ∧ Ev (qGG D cA b E) mModel_send 1 (0, 0) 0 (lv_args 0 [.ref o, .int ((I (o + 51) (x1 : Int32).toNatClampNeg)), .int x4, .int 1, .int x3, .int ((I (o + 53) (x1 : Int32).toNatClampNeg)), .int 0, .int ((-1))]) [] (n, sh, Rf, I, L1) (fun v τ => ∃ (I7 : Nat → Nat → Int32) (L8 : Nat → Nat → Int64), v = none ∧ τ = (n, sh, Rf, I7, L8) ∧ post none (n, sh, Rf, I7, L8))
set_option maxHeartbeats 4000000 in
set_option maxRecDepth 20000 in
theorem sModel_drawOne_164 {D : va_G} {cA : FieldType → ClassId} {b : Nat} {E : State → Prop} (o : Nat) (n : Nat) (sh : Nat → qC) (Rf : Nat → Nat → Option Nat) (I : Nat → Nat → Int32) (L : Nat → Nat → Int64) (post : Option Value → qS → Prop) (x1 : Int32) (x2 : Int32) (x3 : Int32) (x4 : Int32) (x5 : Int64) (z0 : Int64) (z1 : Int64) (z2 : Int32) (hok : q_ok (qGG D cA b E)) (hw : WfModel (qGG D cA b E) n sh Rf o) (H : fModel_drawOne_164 D cA b E o n sh Rf I L post x1 x2 x3 x4 x5 z0 z1 z2) : Ev (qGG D cA b E) mModel_drawOne 2 (0, 0) 164 [(0, .ref o), (1, .int x1), (2, .int x2), (3, .int x3), (4, .int x4), (5, .long x5)] [.long z0, .long z1, .int z2, .ref ((o + 68))] (n, sh, Rf, I, L) post := by
  unfold fModel_drawOne_164 at H
  refine ev_lsub dModel_drawOne_164 ?_
  obtain ⟨h2, H⟩ := H
  refine ev_last hok (waModel_101 hw) h2 dModel_drawOne_165 ?_
  generalize eL1 : q_u L (o + 68) (z2 : Int32).toNatClampNeg (z1 - z0) = L1
  have H := H L1 eL1
  refine ev_aload_n dModel_drawOne_166 rfl ?_
  refine ev_aload_n dModel_drawOne_167 rfl ?_
  refine ev_getR hok fk_Model_525 (woModel hw) (fun _ _ _ => rfl) (wrModel_84 hw) dModel_drawOne_168 ?_
  refine ev_iload_n dModel_drawOne_171 rfl ?_
  obtain ⟨h3, H⟩ := H
  refine ev_iald hok (waModel_84 hw) h3 dModel_drawOne_172 ?_
  refine ev_iload dModel_drawOne_173 rfl ?_
  refine ev_iconst (1) dModel_drawOne_175 (by decide) ?_
  refine ev_iload_n dModel_drawOne_176 rfl ?_
  refine ev_aload_n dModel_drawOne_177 rfl ?_
  refine ev_getR hok fk_Model_463 (woModel hw) (fun _ _ _ => rfl) (wrModel_86 hw) dModel_drawOne_178 ?_
  refine ev_iload_n dModel_drawOne_181 rfl ?_
  obtain ⟨h4, H⟩ := H
  refine ev_iald hok (waModel_86 hw) h4 dModel_drawOne_182 ?_
  refine ev_iconst (0) dModel_drawOne_183 (by decide) ?_
  refine ev_iconst (-1) dModel_drawOne_184 (by decide) ?_
  refine ev_callV [.int ((I (o + 51) (x1 : Int32).toNatClampNeg)), .int x4, .int 1, .int x3, .int ((I (o + 53) (x1 : Int32).toNatClampNeg)), .int 0, .int ((-1))] [] (B' := (0, 0)) (B'' := (0, 0)) hok mmModel_send mk_Model_620 (ci := 12) rfl rfl (woModel hw) rfl (Nat.le_of_ble_eq_true rfl) rfl (Nat.le_of_ble_eq_true rfl) dModel_drawOne_185 rfl (by decide) H (fun v τ p5 => ?_)
  obtain ⟨I7, L8, rfl, rfl, H⟩ := p5
  exact ev_vret rfl dModel_drawOne_188 H
def fModel_drawOne_0 (D : va_G) (cA : FieldType → ClassId) (b : Nat) (E : State → Prop) (o : Nat) (n : Nat) (sh : Nat → qC) (Rf : Nat → Nat → Option Nat) (I : Nat → Nat → Int32) (L : Nat → Nat → Int64) (post : Option Value → qS → Prop) (x1 : Int32) (x2 : Int32) (x3 : Int32) : Prop :=
  vp_in x2 3 ∧ vp_in x1 2000 ∧ vp_in x2 3 ∧ ∀ I3 : Nat → Nat → Int32, q_u I (o + 44) (x2 : Int32).toNatClampNeg ((I (o + 44) (x2 : Int32).toNatClampNeg) - (I (o + 53) (x1 : Int32).toNatClampNeg)) = I3 → vp_in x1 2000 ∧ ∀ I5 : Nat → Nat → Int32, q_u I3 (o + 56) (x1 : Int32).toNatClampNeg (I3 o 57) = I5 → ∀ L7 : Nat → Nat → Int64, q_u L o 119 ((L o 119) + 1) = L7 → vp_in x1 2000 ∧ ∀ L9 : Nat → Nat → Int64, q_u L7 o 118 ((L7 o 118) + (((I5 o 57) - (I5 (o + 54) (x1 : Int32).toNatClampNeg)) : Int32).toInt64) = L9 → ((0 ≤ x3 → Ev (qGG D cA b E) mModel_panAt 0 (0, 0) 0 (lv_args 0 [.ref o, .int x2]) [] (n, sh, Rf, I5, L9) (fun v τ => ∃ (r12 : Int32) (I13 : Nat → Nat → Int32) (L14 : Nat → Nat → Int64), v = some (.int r12) ∧ τ = (n, sh, Rf, I13, L14) ∧ Ev (qGG D cA b E) mModel_townAt 0 (0, 0) 0 (lv_args 0 [.ref o, .int x3]) [] (n, sh, Rf, I13, L14) (fun v τ => ∃ (r16 : Int32) (I17 : Nat → Nat → Int32) (L18 : Nat → Nat → Int64), v = some (.int r16) ∧ τ = (n, sh, Rf, I17, L18) ∧ vp_in ((16 * r12) + r16) 256 ∧ vp_in x1 2000 ∧ vp_in x1 2000 ∧ vp_in (I17 (o + 51) (x1 : Int32).toNatClampNeg) 6 ∧ vp_in x1 2000 ∧ vp_in (I17 (o + 51) (x1 : Int32).toNatClampNeg) 6 ∧ ((0 ≤ (lg_cmp (((((I17 (o + 25) (((16 * r12) + r16) : Int32).toNatClampNeg) * (I17 o 69)) / 10) : Int32).toInt64 * ((I17 (o + 53) (x1 : Int32).toNatClampNeg) : Int32).toInt64) (L18 (o + 68) ((I17 (o + 51) (x1 : Int32).toNatClampNeg) : Int32).toNatClampNeg)) → vp_in x1 2000 ∧ vp_in (I17 (o + 51) (x1 : Int32).toNatClampNeg) 6 ∧ fModel_drawOne_164 D cA b E o n sh Rf I17 L18 post x1 x2 x3 (I17 (o + 25) (((16 * r12) + r16) : Int32).toNatClampNeg) (((((I17 (o + 25) (((16 * r12) + r16) : Int32).toNatClampNeg) * (I17 o 69)) / 10) : Int32).toInt64 * ((I17 (o + 53) (x1 : Int32).toNatClampNeg) : Int32).toInt64) (L18 (o + 68) ((I17 (o + 51) (x1 : Int32).toNatClampNeg) : Int32).toNatClampNeg) (L18 (o + 68) ((I17 (o + 51) (x1 : Int32).toNatClampNeg) : Int32).toNatClampNeg) (I17 (o + 51) (x1 : Int32).toNatClampNeg)) ∧ (¬ 0 ≤ (lg_cmp (((((I17 (o + 25) (((16 * r12) + r16) : Int32).toNatClampNeg) * (I17 o 69)) / 10) : Int32).toInt64 * ((I17 (o + 53) (x1 : Int32).toNatClampNeg) : Int32).toInt64) (L18 (o + 68) ((I17 (o + 51) (x1 : Int32).toNatClampNeg) : Int32).toNatClampNeg)) → fModel_drawOne_164 D cA b E o n sh Rf I17 L18 post x1 x2 x3 (I17 (o + 25) (((16 * r12) + r16) : Int32).toNatClampNeg) (((((I17 (o + 25) (((16 * r12) + r16) : Int32).toNatClampNeg) * (I17 o 69)) / 10) : Int32).toInt64 * ((I17 (o + 53) (x1 : Int32).toNatClampNeg) : Int32).toInt64) (((((I17 (o + 25) (((16 * r12) + r16) : Int32).toNatClampNeg) * (I17 o 69)) / 10) : Int32).toInt64 * ((I17 (o + 53) (x1 : Int32).toNatClampNeg) : Int32).toInt64) (L18 (o + 68) ((I17 (o + 51) (x1 : Int32).toNatClampNeg) : Int32).toNatClampNeg) (I17 (o + 51) (x1 : Int32).toNatClampNeg)))))) ∧ (¬ 0 ≤ x3 → vp_in x1 2000 ∧ ∀ L29 : Nat → Nat → Int64, q_u L9 o 117 ((L9 o 117) + ((I5 (o + 53) (x1 : Int32).toNatClampNeg) : Int32).toInt64) = L29 → post none (n, sh, Rf, I5, L29)))
set_option maxHeartbeats 4000000 in
set_option maxRecDepth 20000 in
theorem sModel_drawOne_0 {D : va_G} {cA : FieldType → ClassId} {b : Nat} {E : State → Prop} (o : Nat) (n : Nat) (sh : Nat → qC) (Rf : Nat → Nat → Option Nat) (I : Nat → Nat → Int32) (L : Nat → Nat → Int64) (post : Option Value → qS → Prop) (x1 : Int32) (x2 : Int32) (x3 : Int32) (hok : q_ok (qGG D cA b E)) (hw : WfModel (qGG D cA b E) n sh Rf o) (H : fModel_drawOne_0 D cA b E o n sh Rf I L post x1 x2 x3) : Ev (qGG D cA b E) mModel_drawOne 2 (0, 0) 0 [(0, .ref o), (1, .int x1), (2, .int x2), (3, .int x3)] [] (n, sh, Rf, I, L) post := by
  unfold fModel_drawOne_0 at H
  refine ev_aload_n dModel_drawOne_0 rfl ?_
  refine ev_getR hok fk_Model_469 (woModel hw) (fun _ _ _ => rfl) (wrModel_77 hw) dModel_drawOne_1 ?_
  refine ev_iload_n dModel_drawOne_4 rfl ?_
  refine ev_dup2_11 dModel_drawOne_5 rfl rfl ?_
  obtain ⟨h1, H⟩ := H
  refine ev_iald hok (waModel_77 hw) h1 dModel_drawOne_6 ?_
  refine ev_aload_n dModel_drawOne_7 rfl ?_
  refine ev_getR hok fk_Model_463 (woModel hw) (fun _ _ _ => rfl) (wrModel_86 hw) dModel_drawOne_8 ?_
  refine ev_iload_n dModel_drawOne_11 rfl ?_
  obtain ⟨h2, H⟩ := H
  refine ev_iald hok (waModel_86 hw) h2 dModel_drawOne_12 ?_
  refine ev_isub dModel_drawOne_13 ?_
  obtain ⟨h4, H⟩ := H
  refine ev_iast hok (waModel_77 hw) h4 dModel_drawOne_14 ?_
  generalize eI3 : q_u I (o + 44) (x2 : Int32).toNatClampNeg ((I (o + 44) (x2 : Int32).toNatClampNeg) - (I (o + 53) (x1 : Int32).toNatClampNeg)) = I3
  have H := H I3 eI3
  refine ev_aload_n dModel_drawOne_15 rfl ?_
  refine ev_getR hok fk_Model_447 (woModel hw) (fun _ _ _ => rfl) (wrModel_89 hw) dModel_drawOne_16 ?_
  refine ev_iload_n dModel_drawOne_19 rfl ?_
  refine ev_aload_n dModel_drawOne_20 rfl ?_
  refine ev_getI hok fk_Model_348 (woModel hw) (fun _ _ _ => rfl) dModel_drawOne_21 ?_
  obtain ⟨h6, H⟩ := H
  refine ev_iast hok (waModel_89 hw) h6 dModel_drawOne_24 ?_
  generalize eI5 : q_u I3 (o + 56) (x1 : Int32).toNatClampNeg (I3 o 57) = I5
  have H := H I5 eI5
  refine ev_aload_n dModel_drawOne_25 rfl ?_
  refine ev_dup dModel_drawOne_26 rfl ?_
  refine ev_getL hok fk_Model_611 (woModel hw) (fun _ _ _ => rfl) dModel_drawOne_27 ?_
  refine ev_lconst 1 dModel_drawOne_30 (by decide) ?_
  refine ev_ladd dModel_drawOne_31 ?_
  refine ev_putL hok fk_Model_611 (woModel hw) (fun _ _ _ => rfl) rfl rfl dModel_drawOne_32 ?_
  generalize eL7 : q_u L o 119 ((L o 119) + 1) = L7
  have H := H L7 eL7
  refine ev_aload_n dModel_drawOne_35 rfl ?_
  refine ev_dup dModel_drawOne_36 rfl ?_
  refine ev_getL hok fk_Model_614 (woModel hw) (fun _ _ _ => rfl) dModel_drawOne_37 ?_
  refine ev_aload_n dModel_drawOne_40 rfl ?_
  refine ev_getI hok fk_Model_348 (woModel hw) (fun _ _ _ => rfl) dModel_drawOne_41 ?_
  refine ev_aload_n dModel_drawOne_44 rfl ?_
  refine ev_getR hok fk_Model_528 (woModel hw) (fun _ _ _ => rfl) (wrModel_87 hw) dModel_drawOne_45 ?_
  refine ev_iload_n dModel_drawOne_48 rfl ?_
  obtain ⟨h8, H⟩ := H
  refine ev_iald hok (waModel_87 hw) h8 dModel_drawOne_49 ?_
  refine ev_isub dModel_drawOne_50 ?_
  refine ev_i2l dModel_drawOne_51 ?_
  refine ev_ladd dModel_drawOne_52 ?_
  refine ev_putL hok fk_Model_614 (woModel hw) (fun _ _ _ => rfl) rfl rfl dModel_drawOne_53 ?_
  generalize eL9 : q_u L7 o 118 ((L7 o 118) + (((I5 o 57) - (I5 (o + 54) (x1 : Int32).toNatClampNeg)) : Int32).toInt64) = L9
  have H := H L9 eL9
  refine ev_iload_n dModel_drawOne_56 rfl ?_
  refine ev_if_ge 77 dModel_drawOne_57 (by decide) (fun c10 => ?_) (fun c10 => ?_)
  · have H := H.1 c10
    refine ev_aload_n dModel_drawOne_77 rfl ?_
    refine ev_getR hok fk_Model_269 (woModel hw) (fun _ _ _ => rfl) (wrModel_36 hw) dModel_drawOne_78 ?_
    refine ev_bipush (16) dModel_drawOne_81 (by decide) ?_
    refine ev_aload_n dModel_drawOne_83 rfl ?_
    refine ev_iload_n dModel_drawOne_84 rfl ?_
    refine ev_callV [.int x2] [.int 16, .ref ((o + 25))] (B' := (0, 0)) (B'' := (0, 0)) hok mmModel_panAt mk_Model_491 (ci := 12) rfl rfl (woModel hw) rfl (Nat.le_of_ble_eq_true rfl) rfl (Nat.le_of_ble_eq_true rfl) dModel_drawOne_85 rfl (by decide) H (fun v τ p11 => ?_)
    obtain ⟨r12, I13, L14, rfl, rfl, H⟩ := p11
    refine ev_imul dModel_drawOne_88 ?_
    refine ev_aload_n dModel_drawOne_89 rfl ?_
    refine ev_iload_n dModel_drawOne_90 rfl ?_
    refine ev_callV [.int x3] [.int ((16 * r12)), .ref ((o + 25))] (B' := (0, 0)) (B'' := (0, 0)) hok mmModel_townAt mk_Model_494 (ci := 12) rfl rfl (woModel hw) rfl (Nat.le_of_ble_eq_true rfl) rfl (Nat.le_of_ble_eq_true rfl) dModel_drawOne_91 rfl (by decide) H (fun v τ p15 => ?_)
    obtain ⟨r16, I17, L18, rfl, rfl, H⟩ := p15
    refine ev_iadd dModel_drawOne_94 ?_
    obtain ⟨h19, H⟩ := H
    refine ev_iald hok (waModel_36 hw) h19 dModel_drawOne_95 ?_
    refine ev_istore dModel_drawOne_96 (by decide) ?_
    refine ev_iload dModel_drawOne_98 rfl ?_
    refine ev_aload_n dModel_drawOne_100 rfl ?_
    refine ev_getI hok fk_Model_397 (woModel hw) (fun _ _ _ => rfl) dModel_drawOne_101 ?_
    refine ev_imul dModel_drawOne_104 ?_
    refine ev_bipush (10) dModel_drawOne_105 (by decide) ?_
    refine ev_idiv dModel_drawOne_107 (by decide) ?_
    refine ev_i2l dModel_drawOne_108 ?_
    refine ev_aload_n dModel_drawOne_109 rfl ?_
    refine ev_getR hok fk_Model_463 (woModel hw) (fun _ _ _ => rfl) (wrModel_86 hw) dModel_drawOne_110 ?_
    refine ev_iload_n dModel_drawOne_113 rfl ?_
    obtain ⟨h20, H⟩ := H
    refine ev_iald hok (waModel_86 hw) h20 dModel_drawOne_114 ?_
    refine ev_i2l dModel_drawOne_115 ?_
    refine ev_lmul dModel_drawOne_116 ?_
    refine ev_lstore dModel_drawOne_117 (by decide) ?_
    refine ev_aload_n dModel_drawOne_119 rfl ?_
    refine ev_getR hok fk_Model_578 (woModel hw) (fun _ _ _ => rfl) (wrModel_101 hw) dModel_drawOne_120 ?_
    refine ev_aload_n dModel_drawOne_123 rfl ?_
    refine ev_getR hok fk_Model_525 (woModel hw) (fun _ _ _ => rfl) (wrModel_84 hw) dModel_drawOne_124 ?_
    refine ev_iload_n dModel_drawOne_127 rfl ?_
    obtain ⟨h21, H⟩ := H
    refine ev_iald hok (waModel_84 hw) h21 dModel_drawOne_128 ?_
    refine ev_dup2_11 dModel_drawOne_129 rfl rfl ?_
    obtain ⟨h22, H⟩ := H
    refine ev_lald hok (waModel_101 hw) h22 dModel_drawOne_130 ?_
    refine ev_lload dModel_drawOne_131 rfl ?_
    refine ev_aload_n dModel_drawOne_133 rfl ?_
    refine ev_getR hok fk_Model_578 (woModel hw) (fun _ _ _ => rfl) (wrModel_101 hw) dModel_drawOne_134 ?_
    refine ev_aload_n dModel_drawOne_137 rfl ?_
    refine ev_getR hok fk_Model_525 (woModel hw) (fun _ _ _ => rfl) (wrModel_84 hw) dModel_drawOne_138 ?_
    refine ev_iload_n dModel_drawOne_141 rfl ?_
    obtain ⟨h23, H⟩ := H
    refine ev_iald hok (waModel_84 hw) h23 dModel_drawOne_142 ?_
    obtain ⟨h24, H⟩ := H
    refine ev_lald hok (waModel_101 hw) h24 dModel_drawOne_143 ?_
    refine ev_lcmp dModel_drawOne_144 ?_
    refine ev_if_ge 153 dModel_drawOne_145 (by decide) (fun c25 => ?_) (fun c25 => ?_)
    · have H := H.1 c25
      refine ev_aload_n dModel_drawOne_153 rfl ?_
      refine ev_getR hok fk_Model_578 (woModel hw) (fun _ _ _ => rfl) (wrModel_101 hw) dModel_drawOne_154 ?_
      refine ev_aload_n dModel_drawOne_157 rfl ?_
      refine ev_getR hok fk_Model_525 (woModel hw) (fun _ _ _ => rfl) (wrModel_84 hw) dModel_drawOne_158 ?_
      refine ev_iload_n dModel_drawOne_161 rfl ?_
      obtain ⟨h26, H⟩ := H
      refine ev_iald hok (waModel_84 hw) h26 dModel_drawOne_162 ?_
      obtain ⟨h27, H⟩ := H
      refine ev_lald hok (waModel_101 hw) h27 dModel_drawOne_163 ?_
      exact ev_sub [(0, .ref o), (1, .int x1), (2, .int x2), (3, .int x3), (4, .int ((I17 (o + 25) (((16 * r12) + r16) : Int32).toNatClampNeg))), (5, .long ((((((I17 (o + 25) (((16 * r12) + r16) : Int32).toNatClampNeg) * (I17 o 69)) / 10) : Int32).toInt64 * ((I17 (o + 53) (x1 : Int32).toNatClampNeg) : Int32).toInt64)))] rfl (sModel_drawOne_164 o n sh Rf I17 L18 post x1 x2 x3 (I17 (o + 25) (((16 * r12) + r16) : Int32).toNatClampNeg) (((((I17 (o + 25) (((16 * r12) + r16) : Int32).toNatClampNeg) * (I17 o 69)) / 10) : Int32).toInt64 * ((I17 (o + 53) (x1 : Int32).toNatClampNeg) : Int32).toInt64) (L18 (o + 68) ((I17 (o + 51) (x1 : Int32).toNatClampNeg) : Int32).toNatClampNeg) (L18 (o + 68) ((I17 (o + 51) (x1 : Int32).toNatClampNeg) : Int32).toNatClampNeg) (I17 (o + 51) (x1 : Int32).toNatClampNeg) hok hw H)
    · have H := H.2 c25
      refine ev_lload dModel_drawOne_148 rfl ?_
      refine ev_goto 164 dModel_drawOne_150 (by decide) ?_
      exact ev_sub [(0, .ref o), (1, .int x1), (2, .int x2), (3, .int x3), (4, .int ((I17 (o + 25) (((16 * r12) + r16) : Int32).toNatClampNeg))), (5, .long ((((((I17 (o + 25) (((16 * r12) + r16) : Int32).toNatClampNeg) * (I17 o 69)) / 10) : Int32).toInt64 * ((I17 (o + 53) (x1 : Int32).toNatClampNeg) : Int32).toInt64)))] rfl (sModel_drawOne_164 o n sh Rf I17 L18 post x1 x2 x3 (I17 (o + 25) (((16 * r12) + r16) : Int32).toNatClampNeg) (((((I17 (o + 25) (((16 * r12) + r16) : Int32).toNatClampNeg) * (I17 o 69)) / 10) : Int32).toInt64 * ((I17 (o + 53) (x1 : Int32).toNatClampNeg) : Int32).toInt64) (((((I17 (o + 25) (((16 * r12) + r16) : Int32).toNatClampNeg) * (I17 o 69)) / 10) : Int32).toInt64 * ((I17 (o + 53) (x1 : Int32).toNatClampNeg) : Int32).toInt64) (L18 (o + 68) ((I17 (o + 51) (x1 : Int32).toNatClampNeg) : Int32).toNatClampNeg) (I17 (o + 51) (x1 : Int32).toNatClampNeg) hok hw H)
  · have H := H.2 c10
    refine ev_aload_n dModel_drawOne_60 rfl ?_
    refine ev_dup dModel_drawOne_61 rfl ?_
    refine ev_getL hok fk_Model_617 (woModel hw) (fun _ _ _ => rfl) dModel_drawOne_62 ?_
    refine ev_aload_n dModel_drawOne_65 rfl ?_
    refine ev_getR hok fk_Model_463 (woModel hw) (fun _ _ _ => rfl) (wrModel_86 hw) dModel_drawOne_66 ?_
    refine ev_iload_n dModel_drawOne_69 rfl ?_
    obtain ⟨h28, H⟩ := H
    refine ev_iald hok (waModel_86 hw) h28 dModel_drawOne_70 ?_
    refine ev_i2l dModel_drawOne_71 ?_
    refine ev_ladd dModel_drawOne_72 ?_
    refine ev_putL hok fk_Model_617 (woModel hw) (fun _ _ _ => rfl) rfl rfl dModel_drawOne_73 ?_
    generalize eL29 : q_u L9 o 117 ((L9 o 117) + ((I5 (o + 53) (x1 : Int32).toNatClampNeg) : Int32).toInt64) = L29
    have H := H L29 eL29
    exact ev_vret rfl dModel_drawOne_76 H
def fModel_forged_0 (D : va_G) (cA : FieldType → ClassId) (b : Nat) (E : State → Prop) (o : Nat) (n : Nat) (sh : Nat → qC) (Rf : Nat → Nat → Option Nat) (I : Nat → Nat → Int32) (L : Nat → Nat → Int64) (post : Option Value → qS → Prop) (x1 : Int32) (x2 : Int32) : Prop :=
  Ev (qGG D cA b E) mModel_isIn 0 (0, 0) 0 (lv_args 0 [.int x1, .int 0, .int 1999]) [] (n, sh, Rf, I, L) (fun v τ => ∃ (r2 : Int32) (I3 : Nat → Nat → Int32) (L4 : Nat → Nat → Int64), v = some (.int r2) ∧ τ = (n, sh, Rf, I3, L4) ∧ ((r2 = 0 → post (some (.int ((-1)))) (n, sh, Rf, I3, L4)) ∧ (¬ r2 = 0 → Ev (qGG D cA b E) mModel_isMonth 1 (0, 0) 0 (lv_args 0 [.int x2]) [] (n, sh, Rf, I3, L4) (fun v τ => ∃ (r7 : Int32) (I8 : Nat → Nat → Int32) (L9 : Nat → Nat → Int64), v = some (.int r7) ∧ τ = (n, sh, Rf, I8, L9) ∧ ((r7 = 0 → post (some (.int ((-1)))) (n, sh, Rf, I8, L9)) ∧ (¬ r7 = 0 → Ev (qGG D cA b E) mModel_fact 0 (0, 0) 0 (lv_args 0 [.ref o, .int 1, .int x1, .int x2, .int 0]) [] (n, sh, Rf, I8, L9) (fun v τ => ∃ (r12 : Int32) (I13 : Nat → Nat → Int32) (L14 : Nat → Nat → Int64), v = some (.int r12) ∧ τ = (n, sh, Rf, I13, L14) ∧ post (some (.int r12)) (n, sh, Rf, I13, L14))))))))
set_option maxHeartbeats 4000000 in
set_option maxRecDepth 20000 in
theorem sModel_forged_0 {D : va_G} {cA : FieldType → ClassId} {b : Nat} {E : State → Prop} (o : Nat) (n : Nat) (sh : Nat → qC) (Rf : Nat → Nat → Option Nat) (I : Nat → Nat → Int32) (L : Nat → Nat → Int64) (post : Option Value → qS → Prop) (x1 : Int32) (x2 : Int32) (hok : q_ok (qGG D cA b E)) (hw : WfModel (qGG D cA b E) n sh Rf o) (H : fModel_forged_0 D cA b E o n sh Rf I L post x1 x2) : Ev (qGG D cA b E) mModel_forged 2 (0, 0) 0 [(0, .ref o), (1, .int x1), (2, .int x2)] [] (n, sh, Rf, I, L) post := by
  unfold fModel_forged_0 at H
  refine ev_iload_n dModel_forged_0 rfl ?_
  refine ev_iconst (0) dModel_forged_1 (by decide) ?_
  refine ev_sipush (1999) dModel_forged_2 (by decide) ?_
  refine ev_callS [.int x1, .int 0, .int 1999] [] (B' := (0, 0)) (B'' := (0, 0)) hok mmModel_isIn mk_Model_393 rfl (Nat.le_of_ble_eq_true rfl) rfl (Nat.le_of_ble_eq_true rfl) dModel_forged_5 rfl (by decide) H (fun v τ p1 => ?_)
  obtain ⟨r2, I3, L4, rfl, rfl, H⟩ := p1
  refine ev_if_eq 29 dModel_forged_8 (by decide) (fun c5 => ?_) (fun c5 => ?_)
  · have H := H.1 c5
    refine ev_iconst (-1) dModel_forged_29 (by decide) ?_
    exact ev_iret rfl dModel_forged_30 H
  · have H := H.2 c5
    refine ev_iload_n dModel_forged_11 rfl ?_
    refine ev_callS [.int x2] [] (B' := (0, 0)) (B'' := (0, 0)) hok mmModel_isMonth mk_Model_436 rfl (Nat.le_of_ble_eq_true rfl) rfl (Nat.le_of_ble_eq_true rfl) dModel_forged_12 rfl (by decide) H (fun v τ p6 => ?_)
    obtain ⟨r7, I8, L9, rfl, rfl, H⟩ := p6
    refine ev_if_eq 29 dModel_forged_15 (by decide) (fun c10 => ?_) (fun c10 => ?_)
    · have H := H.1 c10
      refine ev_iconst (-1) dModel_forged_29 (by decide) ?_
      exact ev_iret rfl dModel_forged_30 H
    · have H := H.2 c10
      refine ev_aload_n dModel_forged_18 rfl ?_
      refine ev_iconst (1) dModel_forged_19 (by decide) ?_
      refine ev_iload_n dModel_forged_20 rfl ?_
      refine ev_iload_n dModel_forged_21 rfl ?_
      refine ev_iconst (0) dModel_forged_22 (by decide) ?_
      refine ev_callV [.int 1, .int x1, .int x2, .int 0] [] (B' := (0, 0)) (B'' := (0, 0)) hok mmModel_fact mk_Model_439 (ci := 12) rfl rfl (woModel hw) rfl (Nat.le_of_ble_eq_true rfl) rfl (Nat.le_of_ble_eq_true rfl) dModel_forged_23 rfl (by decide) H (fun v τ p11 => ?_)
      obtain ⟨r12, I13, L14, rfl, rfl, H⟩ := p11
      refine ev_goto 30 dModel_forged_26 (by decide) ?_
      exact ev_iret rfl dModel_forged_30 H
def fModel_give_0 (D : va_G) (cA : FieldType → ClassId) (b : Nat) (E : State → Prop) (o : Nat) (n : Nat) (sh : Nat → qC) (Rf : Nat → Nat → Option Nat) (I : Nat → Nat → Int32) (L : Nat → Nat → Int64) (post : Option Value → qS → Prop) (x1 : Int32) (x2 : Int32) (x3 : Int32) (x4 : Int32) (x5 : Int32) : Prop :=
  ((¬ x3 = 0 → vp_in (I o 104) 2000 ∧ ∀ I2 : Nat → Nat → Int32, q_u I (o + 51) ((I o 104) : Int32).toNatClampNeg x1 = I2 → vp_in (I o 104) 2000 ∧ ∀ I4 : Nat → Nat → Int32, q_u I2 (o + 52) ((I o 104) : Int32).toNatClampNeg x2 = I4 → vp_in (I o 104) 2000 ∧ ∀ I6 : Nat → Nat → Int32, q_u I4 (o + 53) ((I o 104) : Int32).toNatClampNeg x3 = I6 → vp_in (I o 104) 2000 ∧ ∀ I8 : Nat → Nat → Int32, q_u I6 (o + 54) ((I o 104) : Int32).toNatClampNeg (I6 o 57) = I8 → vp_in (I o 104) 2000 ∧ ∀ I10 : Nat → Nat → Int32, q_u I8 (o + 55) ((I o 104) : Int32).toNatClampNeg x4 = I10 → vp_in (I o 104) 2000 ∧ ∀ I12 : Nat → Nat → Int32, q_u I10 (o + 56) ((I o 104) : Int32).toNatClampNeg (-1) = I12 → vp_in (I o 104) 2000 ∧ ∀ I14 : Nat → Nat → Int32, q_u I12 (o + 65) ((I o 104) : Int32).toNatClampNeg (vp_nar .boolean x5) = I14 → vp_in (I o 104) 2000 ∧ ∀ I16 : Nat → Nat → Int32, q_u I14 (o + 66) ((I o 104) : Int32).toNatClampNeg (vp_nar .boolean 0) = I16 → ∀ I18 : Nat → Nat → Int32, q_u I16 o 104 ((I16 o 104) + 1) = I18 → Ev (qGG D cA b E) mModel_forge 1 (0, 0) 0 (lv_args 0 [.ref o, .int ((I o 104))]) [] (n, sh, Rf, I18, L) (fun v τ => ∃ (I21 : Nat → Nat → Int32) (L22 : Nat → Nat → Int64), v = none ∧ τ = (n, sh, Rf, I21, L22) ∧ post none (n, sh, Rf, I21, L22))) ∧ (x3 = 0 → post none (n, sh, Rf, I, L)))
set_option maxHeartbeats 4000000 in
set_option maxRecDepth 20000 in
theorem sModel_give_0 {D : va_G} {cA : FieldType → ClassId} {b : Nat} {E : State → Prop} (o : Nat) (n : Nat) (sh : Nat → qC) (Rf : Nat → Nat → Option Nat) (I : Nat → Nat → Int32) (L : Nat → Nat → Int64) (post : Option Value → qS → Prop) (x1 : Int32) (x2 : Int32) (x3 : Int32) (x4 : Int32) (x5 : Int32) (hok : q_ok (qGG D cA b E)) (hw : WfModel (qGG D cA b E) n sh Rf o) (H : fModel_give_0 D cA b E o n sh Rf I L post x1 x2 x3 x4 x5) : Ev (qGG D cA b E) mModel_give 2 (0, 0) 0 [(0, .ref o), (1, .int x1), (2, .int x2), (3, .int x3), (4, .int x4), (5, .int x5)] [] (n, sh, Rf, I, L) post := by
  unfold fModel_give_0 at H
  refine ev_iload_n dModel_give_0 rfl ?_
  refine ev_if_ne 5 dModel_give_1 (by decide) (fun c1 => ?_) (fun c1 => ?_)
  · have H := H.1 c1
    refine ev_aload_n dModel_give_5 rfl ?_
    refine ev_getI hok fk_Model_454 (woModel hw) (fun _ _ _ => rfl) dModel_give_6 ?_
    refine ev_istore dModel_give_9 (by decide) ?_
    refine ev_aload_n dModel_give_11 rfl ?_
    refine ev_getR hok fk_Model_525 (woModel hw) (fun _ _ _ => rfl) (wrModel_84 hw) dModel_give_12 ?_
    refine ev_iload dModel_give_15 rfl ?_
    refine ev_iload_n dModel_give_17 rfl ?_
    obtain ⟨h3, H⟩ := H
    refine ev_iast hok (waModel_84 hw) h3 dModel_give_18 ?_
    generalize eI2 : q_u I (o + 51) ((I o 104) : Int32).toNatClampNeg x1 = I2
    have H := H I2 eI2
    refine ev_aload_n dModel_give_19 rfl ?_
    refine ev_getR hok fk_Model_457 (woModel hw) (fun _ _ _ => rfl) (wrModel_85 hw) dModel_give_20 ?_
    refine ev_iload dModel_give_23 rfl ?_
    refine ev_iload_n dModel_give_25 rfl ?_
    obtain ⟨h5, H⟩ := H
    refine ev_iast hok (waModel_85 hw) h5 dModel_give_26 ?_
    generalize eI4 : q_u I2 (o + 52) ((I o 104) : Int32).toNatClampNeg x2 = I4
    have H := H I4 eI4
    refine ev_aload_n dModel_give_27 rfl ?_
    refine ev_getR hok fk_Model_463 (woModel hw) (fun _ _ _ => rfl) (wrModel_86 hw) dModel_give_28 ?_
    refine ev_iload dModel_give_31 rfl ?_
    refine ev_iload_n dModel_give_33 rfl ?_
    obtain ⟨h7, H⟩ := H
    refine ev_iast hok (waModel_86 hw) h7 dModel_give_34 ?_
    generalize eI6 : q_u I4 (o + 53) ((I o 104) : Int32).toNatClampNeg x3 = I6
    have H := H I6 eI6
    refine ev_aload_n dModel_give_35 rfl ?_
    refine ev_getR hok fk_Model_528 (woModel hw) (fun _ _ _ => rfl) (wrModel_87 hw) dModel_give_36 ?_
    refine ev_iload dModel_give_39 rfl ?_
    refine ev_aload_n dModel_give_41 rfl ?_
    refine ev_getI hok fk_Model_348 (woModel hw) (fun _ _ _ => rfl) dModel_give_42 ?_
    obtain ⟨h9, H⟩ := H
    refine ev_iast hok (waModel_87 hw) h9 dModel_give_45 ?_
    generalize eI8 : q_u I6 (o + 54) ((I o 104) : Int32).toNatClampNeg (I6 o 57) = I8
    have H := H I8 eI8
    refine ev_aload_n dModel_give_46 rfl ?_
    refine ev_getR hok fk_Model_531 (woModel hw) (fun _ _ _ => rfl) (wrModel_88 hw) dModel_give_47 ?_
    refine ev_iload dModel_give_50 rfl ?_
    refine ev_iload dModel_give_52 rfl ?_
    obtain ⟨h11, H⟩ := H
    refine ev_iast hok (waModel_88 hw) h11 dModel_give_54 ?_
    generalize eI10 : q_u I8 (o + 55) ((I o 104) : Int32).toNatClampNeg x4 = I10
    have H := H I10 eI10
    refine ev_aload_n dModel_give_55 rfl ?_
    refine ev_getR hok fk_Model_447 (woModel hw) (fun _ _ _ => rfl) (wrModel_89 hw) dModel_give_56 ?_
    refine ev_iload dModel_give_59 rfl ?_
    refine ev_iconst (-1) dModel_give_61 (by decide) ?_
    obtain ⟨h13, H⟩ := H
    refine ev_iast hok (waModel_89 hw) h13 dModel_give_62 ?_
    generalize eI12 : q_u I10 (o + 56) ((I o 104) : Int32).toNatClampNeg (-1) = I12
    have H := H I12 eI12
    refine ev_aload_n dModel_give_63 rfl ?_
    refine ev_getR hok fk_Model_534 (woModel hw) (fun _ _ _ => rfl) (wrModel_98 hw) dModel_give_64 ?_
    refine ev_iload dModel_give_67 rfl ?_
    refine ev_iload dModel_give_69 rfl ?_
    obtain ⟨h15, H⟩ := H
    refine ev_zast hok (waModel_98 hw) h15 dModel_give_71 ?_
    generalize eI14 : q_u I12 (o + 65) ((I o 104) : Int32).toNatClampNeg (vp_nar .boolean x5) = I14
    have H := H I14 eI14
    refine ev_aload_n dModel_give_72 rfl ?_
    refine ev_getR hok fk_Model_450 (woModel hw) (fun _ _ _ => rfl) (wrModel_99 hw) dModel_give_73 ?_
    refine ev_iload dModel_give_76 rfl ?_
    refine ev_iconst (0) dModel_give_78 (by decide) ?_
    obtain ⟨h17, H⟩ := H
    refine ev_zast hok (waModel_99 hw) h17 dModel_give_79 ?_
    generalize eI16 : q_u I14 (o + 66) ((I o 104) : Int32).toNatClampNeg (vp_nar .boolean 0) = I16
    have H := H I16 eI16
    refine ev_aload_n dModel_give_80 rfl ?_
    refine ev_dup dModel_give_81 rfl ?_
    refine ev_getI hok fk_Model_454 (woModel hw) (fun _ _ _ => rfl) dModel_give_82 ?_
    refine ev_iconst (1) dModel_give_85 (by decide) ?_
    refine ev_iadd dModel_give_86 ?_
    refine ev_putI hok fk_Model_454 (woModel hw) (fun _ _ _ => rfl) rfl rfl dModel_give_87 ?_
    generalize eI18 : q_u I16 o 104 ((I16 o 104) + 1) = I18
    have H := H I18 eI18
    refine ev_aload_n dModel_give_90 rfl ?_
    refine ev_iload dModel_give_91 rfl ?_
    refine ev_callV [.int ((I o 104))] [] (B' := (0, 0)) (B'' := (0, 0)) hok mmModel_forge mk_Model_537 (ci := 12) rfl rfl (woModel hw) rfl (Nat.le_of_ble_eq_true rfl) rfl (Nat.le_of_ble_eq_true rfl) dModel_give_93 rfl (by decide) H (fun v τ p19 => ?_)
    obtain ⟨I21, L22, rfl, rfl, H⟩ := p19
    exact ev_vret rfl dModel_give_96 H
  · have H := H.2 c1
    exact ev_vret rfl dModel_give_4 H
def fModel_next_459 (D : va_G) (cA : FieldType → ClassId) (b : Nat) (E : State → Prop) (o : Nat) (n : Nat) (sh : Nat → qC) (Rf : Nat → Nat → Option Nat) (I : Nat → Nat → Int32) (L : Nat → Nat → Int64) (post : Option Value → qS → Prop) (x1 : Int32) (z0 : Int32) : Prop :=
  ∀ I1 : Nat → Nat → Int32, q_u I o 8 z0 = I1 → post none (n, sh, Rf, I1, L)
set_option maxHeartbeats 4000000 in
set_option maxRecDepth 20000 in
theorem sModel_next_459 {D : va_G} {cA : FieldType → ClassId} {b : Nat} {E : State → Prop} (o : Nat) (n : Nat) (sh : Nat → qC) (Rf : Nat → Nat → Option Nat) (I : Nat → Nat → Int32) (L : Nat → Nat → Int64) (post : Option Value → qS → Prop) (x1 : Int32) (z0 : Int32) (hok : q_ok (qGG D cA b E)) (hw : WfModel (qGG D cA b E) n sh Rf o) (H : fModel_next_459 D cA b E o n sh Rf I L post x1 z0) : Ev (qGG D cA b E) mModel_next 2 (0, 0) 459 [(0, .ref o), (1, .int x1)] [.int z0, .ref o] (n, sh, Rf, I, L) post := by
  unfold fModel_next_459 at H
  refine ev_putI hok fk_Model_98 (woModel hw) (fun _ _ _ => rfl) rfl rfl dModel_next_459 ?_
  generalize eI1 : q_u I o 8 z0 = I1
  have H := H I1 eI1
  refine ev_goto 482 dModel_next_462 (by decide) ?_
  exact ev_vret rfl dModel_next_482 H
def fModel_next_454 (D : va_G) (cA : FieldType → ClassId) (b : Nat) (E : State → Prop) (o : Nat) (n : Nat) (sh : Nat → qC) (Rf : Nat → Nat → Option Nat) (I : Nat → Nat → Int32) (L : Nat → Nat → Int64) (post : Option Value → qS → Prop) (x1 : Int32) : Prop :=
  fModel_next_459 D cA b E o n sh Rf I L post x1 1
set_option maxHeartbeats 4000000 in
set_option maxRecDepth 20000 in
theorem sModel_next_454 {D : va_G} {cA : FieldType → ClassId} {b : Nat} {E : State → Prop} (o : Nat) (n : Nat) (sh : Nat → qC) (Rf : Nat → Nat → Option Nat) (I : Nat → Nat → Int32) (L : Nat → Nat → Int64) (post : Option Value → qS → Prop) (x1 : Int32) (hok : q_ok (qGG D cA b E)) (hw : WfModel (qGG D cA b E) n sh Rf o) (H : fModel_next_454 D cA b E o n sh Rf I L post x1) : Ev (qGG D cA b E) mModel_next 2 (0, 0) 454 [(0, .ref o), (1, .int x1)] [.ref o] (n, sh, Rf, I, L) post := by
  unfold fModel_next_454 at H
  refine ev_iconst (1) dModel_next_454 (by decide) ?_
  refine ev_goto 459 dModel_next_455 (by decide) ?_
  exact ev_sub [(0, .ref o), (1, .int x1)] rfl (sModel_next_459 o n sh Rf I L post x1 1 hok hw H)
def fModel_next_413 (D : va_G) (cA : FieldType → ClassId) (b : Nat) (E : State → Prop) (o : Nat) (n : Nat) (sh : Nat → qC) (Rf : Nat → Nat → Option Nat) (I : Nat → Nat → Int32) (L : Nat → Nat → Int64) (post : Option Value → qS → Prop) (x1 : Int32) : Prop :=
  ∀ I1 : Nat → Nat → Int32, q_u I o 7 ((I o 7) + 1) = I1 → Ev (qGG D cA b E) mModel_next 2 (0, 0) 363 [(0, .ref o), (1, .int x1)] [] (n, sh, Rf, I1, L) post
set_option maxHeartbeats 4000000 in
set_option maxRecDepth 20000 in
theorem sModel_next_413 {D : va_G} {cA : FieldType → ClassId} {b : Nat} {E : State → Prop} (o : Nat) (n : Nat) (sh : Nat → qC) (Rf : Nat → Nat → Option Nat) (I : Nat → Nat → Int32) (L : Nat → Nat → Int64) (post : Option Value → qS → Prop) (x1 : Int32) (hok : q_ok (qGG D cA b E)) (hw : WfModel (qGG D cA b E) n sh Rf o) (H : fModel_next_413 D cA b E o n sh Rf I L post x1) : Ev (qGG D cA b E) mModel_next 2 (0, 0) 413 [(0, .ref o), (1, .int x1)] [] (n, sh, Rf, I, L) post := by
  unfold fModel_next_413 at H
  refine ev_aload_n dModel_next_413 rfl ?_
  refine ev_dup dModel_next_414 rfl ?_
  refine ev_getI hok fk_Model_92 (woModel hw) (fun _ _ _ => rfl) dModel_next_415 ?_
  refine ev_iconst (1) dModel_next_418 (by decide) ?_
  refine ev_iadd dModel_next_419 ?_
  refine ev_putI hok fk_Model_92 (woModel hw) (fun _ _ _ => rfl) rfl rfl dModel_next_420 ?_
  generalize eI1 : q_u I o 7 ((I o 7) + 1) = I1
  have H := H I1 eI1
  refine ev_goto 363 dModel_next_423 (by decide) ?_
  exact ev_sub [(0, .ref o), (1, .int x1)] rfl H
def fModel_next_363 (D : va_G) (cA : FieldType → ClassId) (b : Nat) (E : State → Prop) (o : Nat) (n : Nat) (sh : Nat → qC) (Rf : Nat → Nat → Option Nat) (I : Nat → Nat → Int32) (L : Nat → Nat → Int64) (post : Option Value → qS → Prop) (x1 : Int32) : Prop :=
  Ev (qGG D cA b E) mModel_sign 0 (0, 0) 0 (lv_args 0 [.ref o, .int ((I o 7))]) [] (n, sh, Rf, I, L) (fun v τ => ∃ (r2 : Int32) (I3 : Nat → Nat → Int32) (L4 : Nat → Nat → Int64), v = some (.int r2) ∧ τ = (n, sh, Rf, I3, L4) ∧ Ev (qGG D cA b E) mModel_isDigit 0 (0, 0) 0 (lv_args 0 [.int r2]) [] (n, sh, Rf, I3, L4) (fun v τ => ∃ (r6 : Int32) (I7 : Nat → Nat → Int32) (L8 : Nat → Nat → Int64), v = some (.int r6) ∧ τ = (n, sh, Rf, I7, L8) ∧ ((r6 = 0 → ((4 < ((I7 o 7) - (I7 o 6)) → fModel_next_454 D cA b E o n sh Rf I7 L8 post x1) ∧ (¬ 4 < ((I7 o 7) - (I7 o 6)) → Ev (qGG D cA b E) mModel_sign 0 (0, 0) 0 (lv_args 0 [.ref o, .int ((I7 o 7))]) [] (n, sh, Rf, I7, L8) (fun v τ => ∃ (r12 : Int32) (I13 : Nat → Nat → Int32) (L14 : Nat → Nat → Int64), v = some (.int r12) ∧ τ = (n, sh, Rf, I13, L14) ∧ Ev (qGG D cA b E) mModel_isLetter 0 (0, 0) 0 (lv_args 0 [.int r12]) [] (n, sh, Rf, I13, L14) (fun v τ => ∃ (r16 : Int32) (I17 : Nat → Nat → Int32) (L18 : Nat → Nat → Int64), v = some (.int r16) ∧ τ = (n, sh, Rf, I17, L18) ∧ ((r16 = 0 → fModel_next_459 D cA b E o n sh Rf I17 L18 post x1 4) ∧ (¬ r16 = 0 → fModel_next_454 D cA b E o n sh Rf I17 L18 post x1))))))) ∧ (¬ r6 = 0 → ((4 ≤ ((I7 o 7) - (I7 o 6)) → fModel_next_413 D cA b E o n sh Rf I7 L8 post x1) ∧ (¬ 4 ≤ ((I7 o 7) - (I7 o 6)) → Ev (qGG D cA b E) mModel_sign 0 (0, 0) 0 (lv_args 0 [.ref o, .int ((I7 o 7))]) [] (n, sh, Rf, I7, L8) (fun v τ => ∃ (r22 : Int32) (I23 : Nat → Nat → Int32) (L24 : Nat → Nat → Int64), v = some (.int r22) ∧ τ = (n, sh, Rf, I23, L24) ∧ ∀ I25 : Nat → Nat → Int32, q_u I23 o 9 (((10 * (I7 o 9)) + r22) - 48) = I25 → fModel_next_413 D cA b E o n sh Rf I25 L24 post x1)))))))
set_option maxHeartbeats 4000000 in
set_option maxRecDepth 20000 in
theorem sModel_next_363 {D : va_G} {cA : FieldType → ClassId} {b : Nat} {E : State → Prop} (o : Nat) (n : Nat) (sh : Nat → qC) (Rf : Nat → Nat → Option Nat) (I : Nat → Nat → Int32) (L : Nat → Nat → Int64) (post : Option Value → qS → Prop) (x1 : Int32) (hok : q_ok (qGG D cA b E)) (hw : WfModel (qGG D cA b E) n sh Rf o) (H : fModel_next_363 D cA b E o n sh Rf I L post x1) : Ev (qGG D cA b E) mModel_next 2 (0, 0) 363 [(0, .ref o), (1, .int x1)] [] (n, sh, Rf, I, L) post := by
  unfold fModel_next_363 at H
  refine ev_aload_n dModel_next_363 rfl ?_
  refine ev_aload_n dModel_next_364 rfl ?_
  refine ev_getI hok fk_Model_92 (woModel hw) (fun _ _ _ => rfl) dModel_next_365 ?_
  refine ev_callV [.int ((I o 7))] [] (B' := (0, 0)) (B'' := (0, 0)) hok mmModel_sign mk_Model_81 (ci := 12) rfl rfl (woModel hw) rfl (Nat.le_of_ble_eq_true rfl) rfl (Nat.le_of_ble_eq_true rfl) dModel_next_368 rfl (by decide) H (fun v τ p1 => ?_)
  obtain ⟨r2, I3, L4, rfl, rfl, H⟩ := p1
  refine ev_callS [.int r2] [] (B' := (0, 0)) (B'' := (0, 0)) hok mmModel_isDigit mk_Model_85 rfl (Nat.le_of_ble_eq_true rfl) rfl (Nat.le_of_ble_eq_true rfl) dModel_next_371 rfl (by decide) H (fun v τ p5 => ?_)
  obtain ⟨r6, I7, L8, rfl, rfl, H⟩ := p5
  refine ev_if_eq 426 dModel_next_374 (by decide) (fun c9 => ?_) (fun c9 => ?_)
  · have H := H.1 c9
    refine ev_aload_n dModel_next_426 rfl ?_
    refine ev_aload_n dModel_next_427 rfl ?_
    refine ev_getI hok fk_Model_92 (woModel hw) (fun _ _ _ => rfl) dModel_next_428 ?_
    refine ev_aload_n dModel_next_431 rfl ?_
    refine ev_getI hok fk_Model_95 (woModel hw) (fun _ _ _ => rfl) dModel_next_432 ?_
    refine ev_isub dModel_next_435 ?_
    refine ev_iconst (4) dModel_next_436 (by decide) ?_
    refine ev_icmp_gt 454 dModel_next_437 (by decide) (fun c10 => ?_) (fun c10 => ?_)
    · have H := H.1 c10
      exact ev_sub [(0, .ref o), (1, .int x1)] rfl (sModel_next_454 o n sh Rf I7 L8 post x1 hok hw H)
    · have H := H.2 c10
      refine ev_aload_n dModel_next_440 rfl ?_
      refine ev_aload_n dModel_next_441 rfl ?_
      refine ev_getI hok fk_Model_92 (woModel hw) (fun _ _ _ => rfl) dModel_next_442 ?_
      refine ev_callV [.int ((I7 o 7))] [.ref o] (B' := (0, 0)) (B'' := (0, 0)) hok mmModel_sign mk_Model_81 (ci := 12) rfl rfl (woModel hw) rfl (Nat.le_of_ble_eq_true rfl) rfl (Nat.le_of_ble_eq_true rfl) dModel_next_445 rfl (by decide) H (fun v τ p11 => ?_)
      obtain ⟨r12, I13, L14, rfl, rfl, H⟩ := p11
      refine ev_callS [.int r12] [.ref o] (B' := (0, 0)) (B'' := (0, 0)) hok mmModel_isLetter mk_Model_89 rfl (Nat.le_of_ble_eq_true rfl) rfl (Nat.le_of_ble_eq_true rfl) dModel_next_448 rfl (by decide) H (fun v τ p15 => ?_)
      obtain ⟨r16, I17, L18, rfl, rfl, H⟩ := p15
      refine ev_if_eq 458 dModel_next_451 (by decide) (fun c19 => ?_) (fun c19 => ?_)
      · have H := H.1 c19
        refine ev_iconst (4) dModel_next_458 (by decide) ?_
        exact ev_sub [(0, .ref o), (1, .int x1)] rfl (sModel_next_459 o n sh Rf I17 L18 post x1 4 hok hw H)
      · have H := H.2 c19
        exact ev_sub [(0, .ref o), (1, .int x1)] rfl (sModel_next_454 o n sh Rf I17 L18 post x1 hok hw H)
  · have H := H.2 c9
    refine ev_aload_n dModel_next_377 rfl ?_
    refine ev_getI hok fk_Model_92 (woModel hw) (fun _ _ _ => rfl) dModel_next_378 ?_
    refine ev_aload_n dModel_next_381 rfl ?_
    refine ev_getI hok fk_Model_95 (woModel hw) (fun _ _ _ => rfl) dModel_next_382 ?_
    refine ev_isub dModel_next_385 ?_
    refine ev_iconst (4) dModel_next_386 (by decide) ?_
    refine ev_icmp_ge 413 dModel_next_387 (by decide) (fun c20 => ?_) (fun c20 => ?_)
    · have H := H.1 c20
      exact ev_sub [(0, .ref o), (1, .int x1)] rfl (sModel_next_413 o n sh Rf I7 L8 post x1 hok hw H)
    · have H := H.2 c20
      refine ev_aload_n dModel_next_390 rfl ?_
      refine ev_bipush (10) dModel_next_391 (by decide) ?_
      refine ev_aload_n dModel_next_393 rfl ?_
      refine ev_getI hok fk_Model_108 (woModel hw) (fun _ _ _ => rfl) dModel_next_394 ?_
      refine ev_imul dModel_next_397 ?_
      refine ev_aload_n dModel_next_398 rfl ?_
      refine ev_aload_n dModel_next_399 rfl ?_
      refine ev_getI hok fk_Model_92 (woModel hw) (fun _ _ _ => rfl) dModel_next_400 ?_
      refine ev_callV [.int ((I7 o 7))] [.int ((10 * (I7 o 9))), .ref o] (B' := (0, 0)) (B'' := (0, 0)) hok mmModel_sign mk_Model_81 (ci := 12) rfl rfl (woModel hw) rfl (Nat.le_of_ble_eq_true rfl) rfl (Nat.le_of_ble_eq_true rfl) dModel_next_403 rfl (by decide) H (fun v τ p21 => ?_)
      obtain ⟨r22, I23, L24, rfl, rfl, H⟩ := p21
      refine ev_iadd dModel_next_406 ?_
      refine ev_bipush (48) dModel_next_407 (by decide) ?_
      refine ev_isub dModel_next_409 ?_
      refine ev_putI hok fk_Model_108 (woModel hw) (fun _ _ _ => rfl) rfl rfl dModel_next_410 ?_
      generalize eI25 : q_u I23 o 9 (((10 * (I7 o 9)) + r22) - 48) = I25
      have H := H I25 eI25
      exact ev_sub [(0, .ref o), (1, .int x1)] rfl (sModel_next_413 o n sh Rf I25 L24 post x1 hok hw H)
def fModel_next_337 (D : va_G) (cA : FieldType → ClassId) (b : Nat) (E : State → Prop) (o : Nat) (n : Nat) (sh : Nat → qC) (Rf : Nat → Nat → Option Nat) (I : Nat → Nat → Int32) (L : Nat → Nat → Int64) (post : Option Value → qS → Prop) (x1 : Int32) (x2 : Int32) (z0 : Int32) : Prop :=
  ∀ I1 : Nat → Nat → Int32, q_u I o 8 z0 = I1 → post none (n, sh, Rf, I1, L)
set_option maxHeartbeats 4000000 in
set_option maxRecDepth 20000 in
theorem sModel_next_337 {D : va_G} {cA : FieldType → ClassId} {b : Nat} {E : State → Prop} (o : Nat) (n : Nat) (sh : Nat → qC) (Rf : Nat → Nat → Option Nat) (I : Nat → Nat → Int32) (L : Nat → Nat → Int64) (post : Option Value → qS → Prop) (x1 : Int32) (x2 : Int32) (z0 : Int32) (hok : q_ok (qGG D cA b E)) (hw : WfModel (qGG D cA b E) n sh Rf o) (H : fModel_next_337 D cA b E o n sh Rf I L post x1 x2 z0) : Ev (qGG D cA b E) mModel_next 2 (0, 0) 337 [(0, .ref o), (1, .int x1), (2, .int x2)] [.int z0, .ref o] (n, sh, Rf, I, L) post := by
  unfold fModel_next_337 at H
  refine ev_putI hok fk_Model_98 (woModel hw) (fun _ _ _ => rfl) rfl rfl dModel_next_337 ?_
  generalize eI1 : q_u I o 8 z0 = I1
  have H := H I1 eI1
  refine ev_goto 482 dModel_next_340 (by decide) ?_
  exact ev_vret rfl dModel_next_482 H
def fModel_next_303 (D : va_G) (cA : FieldType → ClassId) (b : Nat) (E : State → Prop) (o : Nat) (n : Nat) (sh : Nat → qC) (Rf : Nat → Nat → Option Nat) (I : Nat → Nat → Int32) (L : Nat → Nat → Int64) (post : Option Value → qS → Prop) (x1 : Int32) (x2 : Int32) : Prop :=
  ((((I o 7) - (I o 6)) ≤ 8 → Ev (qGG D cA b E) mModel_isKept 0 (0, 0) 0 (lv_args 0 [.long ((L o 10))]) [] (n, sh, Rf, I, L) (fun v τ => ∃ (r3 : Int32) (I4 : Nat → Nat → Int32) (L5 : Nat → Nat → Int64), v = some (.int r3) ∧ τ = (n, sh, Rf, I4, L5) ∧ ((r3 = 0 → fModel_next_337 D cA b E o n sh Rf I4 L5 post x1 x2 2) ∧ (¬ r3 = 0 → fModel_next_337 D cA b E o n sh Rf I4 L5 post x1 x2 3)))) ∧ (¬ ((I o 7) - (I o 6)) ≤ 8 → fModel_next_337 D cA b E o n sh Rf I L post x1 x2 1))
set_option maxHeartbeats 4000000 in
set_option maxRecDepth 20000 in
theorem sModel_next_303 {D : va_G} {cA : FieldType → ClassId} {b : Nat} {E : State → Prop} (o : Nat) (n : Nat) (sh : Nat → qC) (Rf : Nat → Nat → Option Nat) (I : Nat → Nat → Int32) (L : Nat → Nat → Int64) (post : Option Value → qS → Prop) (x1 : Int32) (x2 : Int32) (hok : q_ok (qGG D cA b E)) (hw : WfModel (qGG D cA b E) n sh Rf o) (H : fModel_next_303 D cA b E o n sh Rf I L post x1 x2) : Ev (qGG D cA b E) mModel_next 2 (0, 0) 303 [(0, .ref o), (1, .int x1), (2, .int x2)] [] (n, sh, Rf, I, L) post := by
  unfold fModel_next_303 at H
  refine ev_aload_n dModel_next_303 rfl ?_
  refine ev_aload_n dModel_next_304 rfl ?_
  refine ev_getI hok fk_Model_92 (woModel hw) (fun _ _ _ => rfl) dModel_next_305 ?_
  refine ev_aload_n dModel_next_308 rfl ?_
  refine ev_getI hok fk_Model_95 (woModel hw) (fun _ _ _ => rfl) dModel_next_309 ?_
  refine ev_isub dModel_next_312 ?_
  refine ev_bipush (8) dModel_next_313 (by decide) ?_
  refine ev_icmp_le 322 dModel_next_315 (by decide) (fun c1 => ?_) (fun c1 => ?_)
  · have H := H.1 c1
    refine ev_aload_n dModel_next_322 rfl ?_
    refine ev_getL hok fk_Model_111 (woModel hw) (fun _ _ _ => rfl) dModel_next_323 ?_
    refine ev_callS [.long ((L o 10))] [.ref o] (B' := (0, 0)) (B'' := (0, 0)) hok mmModel_isKept mk_Model_115 rfl (Nat.le_of_ble_eq_true rfl) rfl (Nat.le_of_ble_eq_true rfl) dModel_next_326 rfl (by decide) H (fun v τ p2 => ?_)
    obtain ⟨r3, I4, L5, rfl, rfl, H⟩ := p2
    refine ev_if_eq 336 dModel_next_329 (by decide) (fun c6 => ?_) (fun c6 => ?_)
    · have H := H.1 c6
      refine ev_iconst (2) dModel_next_336 (by decide) ?_
      exact ev_sub [(0, .ref o), (1, .int x1), (2, .int x2)] rfl (sModel_next_337 o n sh Rf I4 L5 post x1 x2 2 hok hw H)
    · have H := H.2 c6
      refine ev_iconst (3) dModel_next_332 (by decide) ?_
      refine ev_goto 337 dModel_next_333 (by decide) ?_
      exact ev_sub [(0, .ref o), (1, .int x1), (2, .int x2)] rfl (sModel_next_337 o n sh Rf I4 L5 post x1 x2 3 hok hw H)
  · have H := H.2 c1
    refine ev_iconst (1) dModel_next_318 (by decide) ?_
    refine ev_goto 337 dModel_next_319 (by decide) ?_
    exact ev_sub [(0, .ref o), (1, .int x1), (2, .int x2)] rfl (sModel_next_337 o n sh Rf I L post x1 x2 1 hok hw H)
def fModel_next_260 (D : va_G) (cA : FieldType → ClassId) (b : Nat) (E : State → Prop) (o : Nat) (n : Nat) (sh : Nat → qC) (Rf : Nat → Nat → Option Nat) (I : Nat → Nat → Int32) (L : Nat → Nat → Int64) (post : Option Value → qS → Prop) (x1 : Int32) (x2 : Int32) : Prop :=
  (((I o 7) ≤ x2 → fModel_next_303 D cA b E o n sh Rf I L post x1 x2) ∧ (¬ (I o 7) ≤ x2 → ((((I o 6) + 8) ≤ x2 → fModel_next_303 D cA b E o n sh Rf I L post x1 x2) ∧ (¬ ((I o 6) + 8) ≤ x2 → Ev (qGG D cA b E) mModel_sign 0 (0, 0) 0 (lv_args 0 [.ref o, .int x2]) [] (n, sh, Rf, I, L) (fun v τ => ∃ (r4 : Int32) (I5 : Nat → Nat → Int32) (L6 : Nat → Nat → Int64), v = some (.int r4) ∧ τ = (n, sh, Rf, I5, L6) ∧ ∀ L7 : Nat → Nat → Int64, q_u L6 o 10 (((L o 10) <<< ((8 : Int32).toInt64 &&& 63)) ||| (r4 : Int32).toInt64) = L7 → Ev (qGG D cA b E) mModel_next 2 (0, 0) 260 [(0, .ref o), (1, .int x1), (2, .int ((x2 + Int32.ofInt 1)))] [] (n, sh, Rf, I5, L7) post)))))
set_option maxHeartbeats 4000000 in
set_option maxRecDepth 20000 in
theorem sModel_next_260 {D : va_G} {cA : FieldType → ClassId} {b : Nat} {E : State → Prop} (o : Nat) (n : Nat) (sh : Nat → qC) (Rf : Nat → Nat → Option Nat) (I : Nat → Nat → Int32) (L : Nat → Nat → Int64) (post : Option Value → qS → Prop) (x1 : Int32) (x2 : Int32) (hok : q_ok (qGG D cA b E)) (hw : WfModel (qGG D cA b E) n sh Rf o) (H : fModel_next_260 D cA b E o n sh Rf I L post x1 x2) : Ev (qGG D cA b E) mModel_next 2 (0, 0) 260 [(0, .ref o), (1, .int x1), (2, .int x2)] [] (n, sh, Rf, I, L) post := by
  unfold fModel_next_260 at H
  refine ev_iload_n dModel_next_260 rfl ?_
  refine ev_aload_n dModel_next_261 rfl ?_
  refine ev_getI hok fk_Model_92 (woModel hw) (fun _ _ _ => rfl) dModel_next_262 ?_
  refine ev_icmp_ge 303 dModel_next_265 (by decide) (fun c1 => ?_) (fun c1 => ?_)
  · have H := H.1 c1
    exact ev_sub [(0, .ref o), (1, .int x1), (2, .int x2)] rfl (sModel_next_303 o n sh Rf I L post x1 x2 hok hw H)
  · have H := H.2 c1
    refine ev_iload_n dModel_next_268 rfl ?_
    refine ev_aload_n dModel_next_269 rfl ?_
    refine ev_getI hok fk_Model_95 (woModel hw) (fun _ _ _ => rfl) dModel_next_270 ?_
    refine ev_bipush (8) dModel_next_273 (by decide) ?_
    refine ev_iadd dModel_next_275 ?_
    refine ev_icmp_ge 303 dModel_next_276 (by decide) (fun c2 => ?_) (fun c2 => ?_)
    · have H := H.1 c2
      exact ev_sub [(0, .ref o), (1, .int x1), (2, .int x2)] rfl (sModel_next_303 o n sh Rf I L post x1 x2 hok hw H)
    · have H := H.2 c2
      refine ev_aload_n dModel_next_279 rfl ?_
      refine ev_aload_n dModel_next_280 rfl ?_
      refine ev_getL hok fk_Model_111 (woModel hw) (fun _ _ _ => rfl) dModel_next_281 ?_
      refine ev_bipush (8) dModel_next_284 (by decide) ?_
      refine ev_lshl dModel_next_286 ?_
      refine ev_aload_n dModel_next_287 rfl ?_
      refine ev_iload_n dModel_next_288 rfl ?_
      refine ev_callV [.int x2] [.long (((L o 10) <<< ((8 : Int32).toInt64 &&& 63))), .ref o] (B' := (0, 0)) (B'' := (0, 0)) hok mmModel_sign mk_Model_81 (ci := 12) rfl rfl (woModel hw) rfl (Nat.le_of_ble_eq_true rfl) rfl (Nat.le_of_ble_eq_true rfl) dModel_next_289 rfl (by decide) H (fun v τ p3 => ?_)
      obtain ⟨r4, I5, L6, rfl, rfl, H⟩ := p3
      refine ev_i2l dModel_next_292 ?_
      refine ev_lor dModel_next_293 ?_
      refine ev_putL hok fk_Model_111 (woModel hw) (fun _ _ _ => rfl) rfl rfl dModel_next_294 ?_
      generalize eL7 : q_u L6 o 10 (((L o 10) <<< ((8 : Int32).toInt64 &&& 63)) ||| (r4 : Int32).toInt64) = L7
      have H := H L7 eL7
      refine ev_iinc dModel_next_297 rfl (by decide) ?_
      refine ev_goto 260 dModel_next_300 (by decide) ?_
      exact ev_sub [(0, .ref o), (1, .int x1), (2, .int ((x2 + Int32.ofInt 1)))] rfl H
def fModel_next_223 (D : va_G) (cA : FieldType → ClassId) (b : Nat) (E : State → Prop) (o : Nat) (n : Nat) (sh : Nat → qC) (Rf : Nat → Nat → Option Nat) (I : Nat → Nat → Int32) (L : Nat → Nat → Int64) (post : Option Value → qS → Prop) (x1 : Int32) : Prop :=
  Ev (qGG D cA b E) mModel_sign 0 (0, 0) 0 (lv_args 0 [.ref o, .int ((I o 7))]) [] (n, sh, Rf, I, L) (fun v τ => ∃ (r2 : Int32) (I3 : Nat → Nat → Int32) (L4 : Nat → Nat → Int64), v = some (.int r2) ∧ τ = (n, sh, Rf, I3, L4) ∧ Ev (qGG D cA b E) mModel_isLetter 0 (0, 0) 0 (lv_args 0 [.int r2]) [] (n, sh, Rf, I3, L4) (fun v τ => ∃ (r6 : Int32) (I7 : Nat → Nat → Int32) (L8 : Nat → Nat → Int64), v = some (.int r6) ∧ τ = (n, sh, Rf, I7, L8) ∧ ((r6 = 0 → ∀ L10 : Nat → Nat → Int64, q_u L8 o 10 0 = L10 → Ev (qGG D cA b E) mModel_next 2 (0, 0) 260 [(0, .ref o), (1, .int x1), (2, .int ((I7 o 6)))] [] (n, sh, Rf, I7, L10) post) ∧ (¬ r6 = 0 → ∀ I11 : Nat → Nat → Int32, q_u I7 o 7 ((I7 o 7) + 1) = I11 → Ev (qGG D cA b E) mModel_next 2 (0, 0) 223 [(0, .ref o), (1, .int x1)] [] (n, sh, Rf, I11, L8) post))))
set_option maxHeartbeats 4000000 in
set_option maxRecDepth 20000 in
theorem sModel_next_223 {D : va_G} {cA : FieldType → ClassId} {b : Nat} {E : State → Prop} (o : Nat) (n : Nat) (sh : Nat → qC) (Rf : Nat → Nat → Option Nat) (I : Nat → Nat → Int32) (L : Nat → Nat → Int64) (post : Option Value → qS → Prop) (x1 : Int32) (hok : q_ok (qGG D cA b E)) (hw : WfModel (qGG D cA b E) n sh Rf o) (H : fModel_next_223 D cA b E o n sh Rf I L post x1) : Ev (qGG D cA b E) mModel_next 2 (0, 0) 223 [(0, .ref o), (1, .int x1)] [] (n, sh, Rf, I, L) post := by
  unfold fModel_next_223 at H
  refine ev_aload_n dModel_next_223 rfl ?_
  refine ev_aload_n dModel_next_224 rfl ?_
  refine ev_getI hok fk_Model_92 (woModel hw) (fun _ _ _ => rfl) dModel_next_225 ?_
  refine ev_callV [.int ((I o 7))] [] (B' := (0, 0)) (B'' := (0, 0)) hok mmModel_sign mk_Model_81 (ci := 12) rfl rfl (woModel hw) rfl (Nat.le_of_ble_eq_true rfl) rfl (Nat.le_of_ble_eq_true rfl) dModel_next_228 rfl (by decide) H (fun v τ p1 => ?_)
  obtain ⟨r2, I3, L4, rfl, rfl, H⟩ := p1
  refine ev_callS [.int r2] [] (B' := (0, 0)) (B'' := (0, 0)) hok mmModel_isLetter mk_Model_89 rfl (Nat.le_of_ble_eq_true rfl) rfl (Nat.le_of_ble_eq_true rfl) dModel_next_231 rfl (by decide) H (fun v τ p5 => ?_)
  obtain ⟨r6, I7, L8, rfl, rfl, H⟩ := p5
  refine ev_if_eq 250 dModel_next_234 (by decide) (fun c9 => ?_) (fun c9 => ?_)
  · have H := H.1 c9
    refine ev_aload_n dModel_next_250 rfl ?_
    refine ev_lconst 0 dModel_next_251 (by decide) ?_
    refine ev_putL hok fk_Model_111 (woModel hw) (fun _ _ _ => rfl) rfl rfl dModel_next_252 ?_
    generalize eL10 : q_u L8 o 10 0 = L10
    have H := H L10 eL10
    refine ev_aload_n dModel_next_255 rfl ?_
    refine ev_getI hok fk_Model_95 (woModel hw) (fun _ _ _ => rfl) dModel_next_256 ?_
    refine ev_istore_n dModel_next_259 (by decide) ?_
    exact ev_sub [(0, .ref o), (1, .int x1), (2, .int ((I7 o 6)))] rfl H
  · have H := H.2 c9
    refine ev_aload_n dModel_next_237 rfl ?_
    refine ev_dup dModel_next_238 rfl ?_
    refine ev_getI hok fk_Model_92 (woModel hw) (fun _ _ _ => rfl) dModel_next_239 ?_
    refine ev_iconst (1) dModel_next_242 (by decide) ?_
    refine ev_iadd dModel_next_243 ?_
    refine ev_putI hok fk_Model_92 (woModel hw) (fun _ _ _ => rfl) rfl rfl dModel_next_244 ?_
    generalize eI11 : q_u I7 o 7 ((I7 o 7) + 1) = I11
    have H := H I11 eI11
    refine ev_goto 223 dModel_next_247 (by decide) ?_
    exact ev_sub [(0, .ref o), (1, .int x1)] rfl H
def fModel_next_216 (D : va_G) (cA : FieldType → ClassId) (b : Nat) (E : State → Prop) (o : Nat) (n : Nat) (sh : Nat → qC) (Rf : Nat → Nat → Option Nat) (I : Nat → Nat → Int32) (L : Nat → Nat → Int64) (post : Option Value → qS → Prop) (x1 : Int32) : Prop :=
  Ev (qGG D cA b E) mModel_isLetter 0 (0, 0) 0 (lv_args 0 [.int x1]) [] (n, sh, Rf, I, L) (fun v τ => ∃ (r2 : Int32) (I3 : Nat → Nat → Int32) (L4 : Nat → Nat → Int64), v = some (.int r2) ∧ τ = (n, sh, Rf, I3, L4) ∧ ((r2 = 0 → Ev (qGG D cA b E) mModel_isDigit 0 (0, 0) 0 (lv_args 0 [.int x1]) [] (n, sh, Rf, I3, L4) (fun v τ => ∃ (r7 : Int32) (I8 : Nat → Nat → Int32) (L9 : Nat → Nat → Int64), v = some (.int r7) ∧ τ = (n, sh, Rf, I8, L9) ∧ ((r7 = 0 → Ev (qGG D cA b E) mModel_isSign 0 (0, 0) 0 (lv_args 0 [.int x1]) [] (n, sh, Rf, I8, L9) (fun v τ => ∃ (r12 : Int32) (I13 : Nat → Nat → Int32) (L14 : Nat → Nat → Int64), v = some (.int r12) ∧ τ = (n, sh, Rf, I13, L14) ∧ ((r12 = 0 → ∀ I16 : Nat → Nat → Int32, q_u I13 o 8 1 = I16 → post none (n, sh, Rf, I16, L14)) ∧ (¬ r12 = 0 → ∀ I17 : Nat → Nat → Int32, q_u I13 o 8 6 = I17 → post none (n, sh, Rf, I17, L14))))) ∧ (¬ r7 = 0 → ∀ I18 : Nat → Nat → Int32, q_u I8 o 9 0 = I18 → ∀ I19 : Nat → Nat → Int32, q_u I18 o 7 (I18 o 6) = I19 → Ev (qGG D cA b E) mModel_next 2 (0, 0) 363 [(0, .ref o), (1, .int x1)] [] (n, sh, Rf, I19, L9) post)))) ∧ (¬ r2 = 0 → Ev (qGG D cA b E) mModel_next 2 (0, 0) 223 [(0, .ref o), (1, .int x1)] [] (n, sh, Rf, I3, L4) post)))
set_option maxHeartbeats 4000000 in
set_option maxRecDepth 20000 in
theorem sModel_next_216 {D : va_G} {cA : FieldType → ClassId} {b : Nat} {E : State → Prop} (o : Nat) (n : Nat) (sh : Nat → qC) (Rf : Nat → Nat → Option Nat) (I : Nat → Nat → Int32) (L : Nat → Nat → Int64) (post : Option Value → qS → Prop) (x1 : Int32) (hok : q_ok (qGG D cA b E)) (hw : WfModel (qGG D cA b E) n sh Rf o) (H : fModel_next_216 D cA b E o n sh Rf I L post x1) : Ev (qGG D cA b E) mModel_next 2 (0, 0) 216 [(0, .ref o), (1, .int x1)] [] (n, sh, Rf, I, L) post := by
  unfold fModel_next_216 at H
  refine ev_iload_n dModel_next_216 rfl ?_
  refine ev_callS [.int x1] [] (B' := (0, 0)) (B'' := (0, 0)) hok mmModel_isLetter mk_Model_89 rfl (Nat.le_of_ble_eq_true rfl) rfl (Nat.le_of_ble_eq_true rfl) dModel_next_217 rfl (by decide) H (fun v τ p1 => ?_)
  obtain ⟨r2, I3, L4, rfl, rfl, H⟩ := p1
  refine ev_if_eq 343 dModel_next_220 (by decide) (fun c5 => ?_) (fun c5 => ?_)
  · have H := H.1 c5
    refine ev_iload_n dModel_next_343 rfl ?_
    refine ev_callS [.int x1] [] (B' := (0, 0)) (B'' := (0, 0)) hok mmModel_isDigit mk_Model_85 rfl (Nat.le_of_ble_eq_true rfl) rfl (Nat.le_of_ble_eq_true rfl) dModel_next_344 rfl (by decide) H (fun v τ p6 => ?_)
    obtain ⟨r7, I8, L9, rfl, rfl, H⟩ := p6
    refine ev_if_eq 465 dModel_next_347 (by decide) (fun c10 => ?_) (fun c10 => ?_)
    · have H := H.1 c10
      refine ev_aload_n dModel_next_465 rfl ?_
      refine ev_iload_n dModel_next_466 rfl ?_
      refine ev_callS [.int x1] [.ref o] (B' := (0, 0)) (B'' := (0, 0)) hok mmModel_isSign mk_Model_119 rfl (Nat.le_of_ble_eq_true rfl) rfl (Nat.le_of_ble_eq_true rfl) dModel_next_467 rfl (by decide) H (fun v τ p11 => ?_)
      obtain ⟨r12, I13, L14, rfl, rfl, H⟩ := p11
      refine ev_if_eq 478 dModel_next_470 (by decide) (fun c15 => ?_) (fun c15 => ?_)
      · have H := H.1 c15
        refine ev_iconst (1) dModel_next_478 (by decide) ?_
        refine ev_putI hok fk_Model_98 (woModel hw) (fun _ _ _ => rfl) rfl rfl dModel_next_479 ?_
        generalize eI16 : q_u I13 o 8 1 = I16
        have H := H I16 eI16
        exact ev_vret rfl dModel_next_482 H
      · have H := H.2 c15
        refine ev_bipush (6) dModel_next_473 (by decide) ?_
        refine ev_goto 479 dModel_next_475 (by decide) ?_
        refine ev_putI hok fk_Model_98 (woModel hw) (fun _ _ _ => rfl) rfl rfl dModel_next_479 ?_
        generalize eI17 : q_u I13 o 8 6 = I17
        have H := H I17 eI17
        exact ev_vret rfl dModel_next_482 H
    · have H := H.2 c10
      refine ev_aload_n dModel_next_350 rfl ?_
      refine ev_iconst (0) dModel_next_351 (by decide) ?_
      refine ev_putI hok fk_Model_108 (woModel hw) (fun _ _ _ => rfl) rfl rfl dModel_next_352 ?_
      generalize eI18 : q_u I8 o 9 0 = I18
      have H := H I18 eI18
      refine ev_aload_n dModel_next_355 rfl ?_
      refine ev_aload_n dModel_next_356 rfl ?_
      refine ev_getI hok fk_Model_95 (woModel hw) (fun _ _ _ => rfl) dModel_next_357 ?_
      refine ev_putI hok fk_Model_92 (woModel hw) (fun _ _ _ => rfl) rfl rfl dModel_next_360 ?_
      generalize eI19 : q_u I18 o 7 (I18 o 6) = I19
      have H := H I19 eI19
      exact ev_sub [(0, .ref o), (1, .int x1)] rfl H
  · have H := H.2 c5
    exact ev_sub [(0, .ref o), (1, .int x1)] rfl H
def fModel_next_196 (D : va_G) (cA : FieldType → ClassId) (b : Nat) (E : State → Prop) (o : Nat) (n : Nat) (sh : Nat → qC) (Rf : Nat → Nat → Option Nat) (I : Nat → Nat → Int32) (L : Nat → Nat → Int64) (post : Option Value → qS → Prop) (x1 : Int32) (x2 : Int32) : Prop :=
  ∀ I1 : Nat → Nat → Int32, q_u I o 7 (((I o 6) + 1) + x2) = I1 → ∀ I2 : Nat → Nat → Int32, q_u I1 o 8 5 = I2 → post none (n, sh, Rf, I2, L)
set_option maxHeartbeats 4000000 in
set_option maxRecDepth 20000 in
theorem sModel_next_196 {D : va_G} {cA : FieldType → ClassId} {b : Nat} {E : State → Prop} (o : Nat) (n : Nat) (sh : Nat → qC) (Rf : Nat → Nat → Option Nat) (I : Nat → Nat → Int32) (L : Nat → Nat → Int64) (post : Option Value → qS → Prop) (x1 : Int32) (x2 : Int32) (hok : q_ok (qGG D cA b E)) (hw : WfModel (qGG D cA b E) n sh Rf o) (H : fModel_next_196 D cA b E o n sh Rf I L post x1 x2) : Ev (qGG D cA b E) mModel_next 2 (0, 0) 196 [(0, .ref o), (1, .int x1), (2, .int x2)] [] (n, sh, Rf, I, L) post := by
  unfold fModel_next_196 at H
  refine ev_aload_n dModel_next_196 rfl ?_
  refine ev_aload_n dModel_next_197 rfl ?_
  refine ev_getI hok fk_Model_95 (woModel hw) (fun _ _ _ => rfl) dModel_next_198 ?_
  refine ev_iconst (1) dModel_next_201 (by decide) ?_
  refine ev_iadd dModel_next_202 ?_
  refine ev_iload_n dModel_next_203 rfl ?_
  refine ev_iadd dModel_next_204 ?_
  refine ev_putI hok fk_Model_92 (woModel hw) (fun _ _ _ => rfl) rfl rfl dModel_next_205 ?_
  generalize eI1 : q_u I o 7 (((I o 6) + 1) + x2) = I1
  have H := H I1 eI1
  refine ev_aload_n dModel_next_208 rfl ?_
  refine ev_iconst (5) dModel_next_209 (by decide) ?_
  refine ev_putI hok fk_Model_98 (woModel hw) (fun _ _ _ => rfl) rfl rfl dModel_next_210 ?_
  generalize eI2 : q_u I1 o 8 5 = I2
  have H := H I2 eI2
  refine ev_goto 482 dModel_next_213 (by decide) ?_
  exact ev_vret rfl dModel_next_482 H
def fModel_next_58 (D : va_G) (cA : FieldType → ClassId) (b : Nat) (E : State → Prop) (o : Nat) (n : Nat) (sh : Nat → qC) (Rf : Nat → Nat → Option Nat) (I : Nat → Nat → Int32) (L : Nat → Nat → Int64) (post : Option Value → qS → Prop)  : Prop :=
  Ev (qGG D cA b E) mModel_sign 0 (0, 0) 0 (lv_args 0 [.ref o, .int ((I o 6))]) [] (n, sh, Rf, I, L) (fun v τ => ∃ (r2 : Int32) (I3 : Nat → Nat → Int32) (L4 : Nat → Nat → Int64), v = some (.int r2) ∧ τ = (n, sh, Rf, I3, L4) ∧ ∀ I5 : Nat → Nat → Int32, q_u I3 o 7 ((I3 o 6) + 1) = I5 → (((I5 o 6) < (I5 o 3) → ((¬ (I5 o 11) = 0 → fModel_next_216 D cA b E o n sh Rf I5 L4 post r2) ∧ ((I5 o 11) = 0 → ((¬ r2 = 112 → fModel_next_216 D cA b E o n sh Rf I5 L4 post r2) ∧ (r2 = 112 → Ev (qGG D cA b E) mModel_pointAt 1 (0, 0) 0 (lv_args 0 [.ref o, .int (((I5 o 6) + 1))]) [] (n, sh, Rf, I5, L4) (fun v τ => ∃ (r10 : Int32) (I11 : Nat → Nat → Int32) (L12 : Nat → Nat → Int64), v = some (.int r10) ∧ τ = (n, sh, Rf, I11, L12) ∧ ((r10 ≤ 0 → fModel_next_216 D cA b E o n sh Rf I11 L12 post r2) ∧ (¬ r10 ≤ 0 → Ev (qGG D cA b E) mModel_pointAt 1 (0, 0) 0 (lv_args 0 [.ref o, .int (((I11 o 6) + 1))]) [] (n, sh, Rf, I11, L12) (fun v τ => ∃ (r15 : Int32) (I16 : Nat → Nat → Int32) (L17 : Nat → Nat → Int64), v = some (.int r15) ∧ τ = (n, sh, Rf, I16, L17) ∧ Ev (qGG D cA b E) mModel_sign 0 (0, 0) 0 (lv_args 0 [.ref o, .int (((I16 o 6) + 1))]) [] (n, sh, Rf, I16, L17) (fun v τ => ∃ (r19 : Int32) (I20 : Nat → Nat → Int32) (L21 : Nat → Nat → Int64), v = some (.int r19) ∧ τ = (n, sh, Rf, I20, L21) ∧ ∀ I22 : Nat → Nat → Int32, q_u I20 o 9 (r19 - 48) = I22 → ((¬ r15 = 2 → fModel_next_196 D cA b E o n sh Rf I22 L21 post r2 r15) ∧ (r15 = 2 → Ev (qGG D cA b E) mModel_sign 0 (0, 0) 0 (lv_args 0 [.ref o, .int (((I22 o 6) + 2))]) [] (n, sh, Rf, I22, L21) (fun v τ => ∃ (r25 : Int32) (I26 : Nat → Nat → Int32) (L27 : Nat → Nat → Int64), v = some (.int r25) ∧ τ = (n, sh, Rf, I26, L27) ∧ ∀ I28 : Nat → Nat → Int32, q_u I26 o 9 (((10 * (I22 o 9)) + r25) - 48) = I28 → fModel_next_196 D cA b E o n sh Rf I28 L27 post r2 r15))))))))))))) ∧ (¬ (I5 o 6) < (I5 o 3) → ∀ I29 : Nat → Nat → Int32, q_u I5 o 8 0 = I29 → ∀ I30 : Nat → Nat → Int32, q_u I29 o 6 (I29 o 3) = I30 → ∀ I31 : Nat → Nat → Int32, q_u I30 o 7 (I30 o 3) = I31 → post none (n, sh, Rf, I31, L4))))
set_option maxHeartbeats 4000000 in
set_option maxRecDepth 20000 in
theorem sModel_next_58 {D : va_G} {cA : FieldType → ClassId} {b : Nat} {E : State → Prop} (o : Nat) (n : Nat) (sh : Nat → qC) (Rf : Nat → Nat → Option Nat) (I : Nat → Nat → Int32) (L : Nat → Nat → Int64) (post : Option Value → qS → Prop)  (hok : q_ok (qGG D cA b E)) (hw : WfModel (qGG D cA b E) n sh Rf o) (H : fModel_next_58 D cA b E o n sh Rf I L post ) : Ev (qGG D cA b E) mModel_next 2 (0, 0) 58 [(0, .ref o)] [] (n, sh, Rf, I, L) post := by
  unfold fModel_next_58 at H
  refine ev_aload_n dModel_next_58 rfl ?_
  refine ev_aload_n dModel_next_59 rfl ?_
  refine ev_getI hok fk_Model_95 (woModel hw) (fun _ _ _ => rfl) dModel_next_60 ?_
  refine ev_callV [.int ((I o 6))] [] (B' := (0, 0)) (B'' := (0, 0)) hok mmModel_sign mk_Model_81 (ci := 12) rfl rfl (woModel hw) rfl (Nat.le_of_ble_eq_true rfl) rfl (Nat.le_of_ble_eq_true rfl) dModel_next_63 rfl (by decide) H (fun v τ p1 => ?_)
  obtain ⟨r2, I3, L4, rfl, rfl, H⟩ := p1
  refine ev_istore_n dModel_next_66 (by decide) ?_
  refine ev_aload_n dModel_next_67 rfl ?_
  refine ev_aload_n dModel_next_68 rfl ?_
  refine ev_getI hok fk_Model_95 (woModel hw) (fun _ _ _ => rfl) dModel_next_69 ?_
  refine ev_iconst (1) dModel_next_72 (by decide) ?_
  refine ev_iadd dModel_next_73 ?_
  refine ev_putI hok fk_Model_92 (woModel hw) (fun _ _ _ => rfl) rfl rfl dModel_next_74 ?_
  generalize eI5 : q_u I3 o 7 ((I3 o 6) + 1) = I5
  have H := H I5 eI5
  refine ev_aload_n dModel_next_77 rfl ?_
  refine ev_getI hok fk_Model_95 (woModel hw) (fun _ _ _ => rfl) dModel_next_78 ?_
  refine ev_aload_n dModel_next_81 rfl ?_
  refine ev_getI hok fk_Model_1 (woModel hw) (fun _ _ _ => rfl) dModel_next_82 ?_
  refine ev_icmp_lt 112 dModel_next_85 (by decide) (fun c6 => ?_) (fun c6 => ?_)
  · have H := H.1 c6
    refine ev_aload_n dModel_next_112 rfl ?_
    refine ev_getI hok fk_Model_101 (woModel hw) (fun _ _ _ => rfl) dModel_next_113 ?_
    refine ev_if_ne 216 dModel_next_116 (by decide) (fun c7 => ?_) (fun c7 => ?_)
    · have H := H.1 c7
      exact ev_sub [(0, .ref o), (1, .int r2)] rfl (sModel_next_216 o n sh Rf I5 L4 post r2 hok hw H)
    · have H := H.2 c7
      refine ev_iload_n dModel_next_119 rfl ?_
      refine ev_bipush (112) dModel_next_120 (by decide) ?_
      refine ev_icmp_ne 216 dModel_next_122 (by decide) (fun c8 => ?_) (fun c8 => ?_)
      · have H := H.1 c8
        exact ev_sub [(0, .ref o), (1, .int r2)] rfl (sModel_next_216 o n sh Rf I5 L4 post r2 hok hw H)
      · have H := H.2 c8
        refine ev_aload_n dModel_next_125 rfl ?_
        refine ev_aload_n dModel_next_126 rfl ?_
        refine ev_getI hok fk_Model_95 (woModel hw) (fun _ _ _ => rfl) dModel_next_127 ?_
        refine ev_iconst (1) dModel_next_130 (by decide) ?_
        refine ev_iadd dModel_next_131 ?_
        refine ev_callV [.int (((I5 o 6) + 1))] [] (B' := (0, 0)) (B'' := (0, 0)) hok mmModel_pointAt mk_Model_105 (ci := 12) rfl rfl (woModel hw) rfl (Nat.le_of_ble_eq_true rfl) rfl (Nat.le_of_ble_eq_true rfl) dModel_next_132 rfl (by decide) H (fun v τ p9 => ?_)
        obtain ⟨r10, I11, L12, rfl, rfl, H⟩ := p9
        refine ev_if_le 216 dModel_next_135 (by decide) (fun c13 => ?_) (fun c13 => ?_)
        · have H := H.1 c13
          exact ev_sub [(0, .ref o), (1, .int r2)] rfl (sModel_next_216 o n sh Rf I11 L12 post r2 hok hw H)
        · have H := H.2 c13
          refine ev_aload_n dModel_next_138 rfl ?_
          refine ev_aload_n dModel_next_139 rfl ?_
          refine ev_getI hok fk_Model_95 (woModel hw) (fun _ _ _ => rfl) dModel_next_140 ?_
          refine ev_iconst (1) dModel_next_143 (by decide) ?_
          refine ev_iadd dModel_next_144 ?_
          refine ev_callV [.int (((I11 o 6) + 1))] [] (B' := (0, 0)) (B'' := (0, 0)) hok mmModel_pointAt mk_Model_105 (ci := 12) rfl rfl (woModel hw) rfl (Nat.le_of_ble_eq_true rfl) rfl (Nat.le_of_ble_eq_true rfl) dModel_next_145 rfl (by decide) H (fun v τ p14 => ?_)
          obtain ⟨r15, I16, L17, rfl, rfl, H⟩ := p14
          refine ev_istore_n dModel_next_148 (by decide) ?_
          refine ev_aload_n dModel_next_149 rfl ?_
          refine ev_aload_n dModel_next_150 rfl ?_
          refine ev_aload_n dModel_next_151 rfl ?_
          refine ev_getI hok fk_Model_95 (woModel hw) (fun _ _ _ => rfl) dModel_next_152 ?_
          refine ev_iconst (1) dModel_next_155 (by decide) ?_
          refine ev_iadd dModel_next_156 ?_
          refine ev_callV [.int (((I16 o 6) + 1))] [.ref o] (B' := (0, 0)) (B'' := (0, 0)) hok mmModel_sign mk_Model_81 (ci := 12) rfl rfl (woModel hw) rfl (Nat.le_of_ble_eq_true rfl) rfl (Nat.le_of_ble_eq_true rfl) dModel_next_157 rfl (by decide) H (fun v τ p18 => ?_)
          obtain ⟨r19, I20, L21, rfl, rfl, H⟩ := p18
          refine ev_bipush (48) dModel_next_160 (by decide) ?_
          refine ev_isub dModel_next_162 ?_
          refine ev_putI hok fk_Model_108 (woModel hw) (fun _ _ _ => rfl) rfl rfl dModel_next_163 ?_
          generalize eI22 : q_u I20 o 9 (r19 - 48) = I22
          have H := H I22 eI22
          refine ev_iload_n dModel_next_166 rfl ?_
          refine ev_iconst (2) dModel_next_167 (by decide) ?_
          refine ev_icmp_ne 196 dModel_next_168 (by decide) (fun c23 => ?_) (fun c23 => ?_)
          · have H := H.1 c23
            exact ev_sub [(0, .ref o), (1, .int r2), (2, .int r15)] rfl (sModel_next_196 o n sh Rf I22 L21 post r2 r15 hok hw H)
          · have H := H.2 c23
            refine ev_aload_n dModel_next_171 rfl ?_
            refine ev_bipush (10) dModel_next_172 (by decide) ?_
            refine ev_aload_n dModel_next_174 rfl ?_
            refine ev_getI hok fk_Model_108 (woModel hw) (fun _ _ _ => rfl) dModel_next_175 ?_
            refine ev_imul dModel_next_178 ?_
            refine ev_aload_n dModel_next_179 rfl ?_
            refine ev_aload_n dModel_next_180 rfl ?_
            refine ev_getI hok fk_Model_95 (woModel hw) (fun _ _ _ => rfl) dModel_next_181 ?_
            refine ev_iconst (2) dModel_next_184 (by decide) ?_
            refine ev_iadd dModel_next_185 ?_
            refine ev_callV [.int (((I22 o 6) + 2))] [.int ((10 * (I22 o 9))), .ref o] (B' := (0, 0)) (B'' := (0, 0)) hok mmModel_sign mk_Model_81 (ci := 12) rfl rfl (woModel hw) rfl (Nat.le_of_ble_eq_true rfl) rfl (Nat.le_of_ble_eq_true rfl) dModel_next_186 rfl (by decide) H (fun v τ p24 => ?_)
            obtain ⟨r25, I26, L27, rfl, rfl, H⟩ := p24
            refine ev_iadd dModel_next_189 ?_
            refine ev_bipush (48) dModel_next_190 (by decide) ?_
            refine ev_isub dModel_next_192 ?_
            refine ev_putI hok fk_Model_108 (woModel hw) (fun _ _ _ => rfl) rfl rfl dModel_next_193 ?_
            generalize eI28 : q_u I26 o 9 (((10 * (I22 o 9)) + r25) - 48) = I28
            have H := H I28 eI28
            exact ev_sub [(0, .ref o), (1, .int r2), (2, .int r15)] rfl (sModel_next_196 o n sh Rf I28 L27 post r2 r15 hok hw H)
  · have H := H.2 c6
    refine ev_aload_n dModel_next_88 rfl ?_
    refine ev_iconst (0) dModel_next_89 (by decide) ?_
    refine ev_putI hok fk_Model_98 (woModel hw) (fun _ _ _ => rfl) rfl rfl dModel_next_90 ?_
    generalize eI29 : q_u I5 o 8 0 = I29
    have H := H I29 eI29
    refine ev_aload_n dModel_next_93 rfl ?_
    refine ev_aload_n dModel_next_94 rfl ?_
    refine ev_getI hok fk_Model_1 (woModel hw) (fun _ _ _ => rfl) dModel_next_95 ?_
    refine ev_putI hok fk_Model_95 (woModel hw) (fun _ _ _ => rfl) rfl rfl dModel_next_98 ?_
    generalize eI30 : q_u I29 o 6 (I29 o 3) = I30
    have H := H I30 eI30
    refine ev_aload_n dModel_next_101 rfl ?_
    refine ev_aload_n dModel_next_102 rfl ?_
    refine ev_getI hok fk_Model_1 (woModel hw) (fun _ _ _ => rfl) dModel_next_103 ?_
    refine ev_putI hok fk_Model_92 (woModel hw) (fun _ _ _ => rfl) rfl rfl dModel_next_106 ?_
    generalize eI31 : q_u I30 o 7 (I30 o 3) = I31
    have H := H I31 eI31
    refine ev_goto 482 dModel_next_109 (by decide) ?_
    exact ev_vret rfl dModel_next_482 H
def fModel_next_45 (D : va_G) (cA : FieldType → ClassId) (b : Nat) (E : State → Prop) (o : Nat) (n : Nat) (sh : Nat → qC) (Rf : Nat → Nat → Option Nat) (I : Nat → Nat → Int32) (L : Nat → Nat → Int64) (post : Option Value → qS → Prop)  : Prop :=
  ∀ I1 : Nat → Nat → Int32, q_u I o 6 ((I o 6) + 1) = I1 → Ev (qGG D cA b E) mModel_next 2 (0, 0) 8 [(0, .ref o)] [] (n, sh, Rf, I1, L) post
set_option maxHeartbeats 4000000 in
set_option maxRecDepth 20000 in
theorem sModel_next_45 {D : va_G} {cA : FieldType → ClassId} {b : Nat} {E : State → Prop} (o : Nat) (n : Nat) (sh : Nat → qC) (Rf : Nat → Nat → Option Nat) (I : Nat → Nat → Int32) (L : Nat → Nat → Int64) (post : Option Value → qS → Prop)  (hok : q_ok (qGG D cA b E)) (hw : WfModel (qGG D cA b E) n sh Rf o) (H : fModel_next_45 D cA b E o n sh Rf I L post ) : Ev (qGG D cA b E) mModel_next 2 (0, 0) 45 [(0, .ref o)] [] (n, sh, Rf, I, L) post := by
  unfold fModel_next_45 at H
  refine ev_aload_n dModel_next_45 rfl ?_
  refine ev_dup dModel_next_46 rfl ?_
  refine ev_getI hok fk_Model_95 (woModel hw) (fun _ _ _ => rfl) dModel_next_47 ?_
  refine ev_iconst (1) dModel_next_50 (by decide) ?_
  refine ev_iadd dModel_next_51 ?_
  refine ev_putI hok fk_Model_95 (woModel hw) (fun _ _ _ => rfl) rfl rfl dModel_next_52 ?_
  generalize eI1 : q_u I o 6 ((I o 6) + 1) = I1
  have H := H I1 eI1
  refine ev_goto 8 dModel_next_55 (by decide) ?_
  exact ev_sub [(0, .ref o)] rfl H
def fModel_next_8 (D : va_G) (cA : FieldType → ClassId) (b : Nat) (E : State → Prop) (o : Nat) (n : Nat) (sh : Nat → qC) (Rf : Nat → Nat → Option Nat) (I : Nat → Nat → Int32) (L : Nat → Nat → Int64) (post : Option Value → qS → Prop)  : Prop :=
  (((I o 3) ≤ (I o 6) → fModel_next_58 D cA b E o n sh Rf I L post ) ∧ (¬ (I o 3) ≤ (I o 6) → Ev (qGG D cA b E) mModel_sign 0 (0, 0) 0 (lv_args 0 [.ref o, .int ((I o 6))]) [] (n, sh, Rf, I, L) (fun v τ => ∃ (r3 : Int32) (I4 : Nat → Nat → Int32) (L5 : Nat → Nat → Int64), v = some (.int r3) ∧ τ = (n, sh, Rf, I4, L5) ∧ ((r3 = 32 → fModel_next_45 D cA b E o n sh Rf I4 L5 post ) ∧ (¬ r3 = 32 → Ev (qGG D cA b E) mModel_sign 0 (0, 0) 0 (lv_args 0 [.ref o, .int ((I4 o 6))]) [] (n, sh, Rf, I4, L5) (fun v τ => ∃ (r8 : Int32) (I9 : Nat → Nat → Int32) (L10 : Nat → Nat → Int64), v = some (.int r8) ∧ τ = (n, sh, Rf, I9, L10) ∧ ((¬ r8 = 10 → fModel_next_58 D cA b E o n sh Rf I9 L10 post ) ∧ (r8 = 10 → fModel_next_45 D cA b E o n sh Rf I9 L10 post ))))))))
set_option maxHeartbeats 4000000 in
set_option maxRecDepth 20000 in
theorem sModel_next_8 {D : va_G} {cA : FieldType → ClassId} {b : Nat} {E : State → Prop} (o : Nat) (n : Nat) (sh : Nat → qC) (Rf : Nat → Nat → Option Nat) (I : Nat → Nat → Int32) (L : Nat → Nat → Int64) (post : Option Value → qS → Prop)  (hok : q_ok (qGG D cA b E)) (hw : WfModel (qGG D cA b E) n sh Rf o) (H : fModel_next_8 D cA b E o n sh Rf I L post ) : Ev (qGG D cA b E) mModel_next 2 (0, 0) 8 [(0, .ref o)] [] (n, sh, Rf, I, L) post := by
  unfold fModel_next_8 at H
  refine ev_aload_n dModel_next_8 rfl ?_
  refine ev_getI hok fk_Model_95 (woModel hw) (fun _ _ _ => rfl) dModel_next_9 ?_
  refine ev_aload_n dModel_next_12 rfl ?_
  refine ev_getI hok fk_Model_1 (woModel hw) (fun _ _ _ => rfl) dModel_next_13 ?_
  refine ev_icmp_ge 58 dModel_next_16 (by decide) (fun c1 => ?_) (fun c1 => ?_)
  · have H := H.1 c1
    exact ev_sub [(0, .ref o)] rfl (sModel_next_58 o n sh Rf I L post  hok hw H)
  · have H := H.2 c1
    refine ev_aload_n dModel_next_19 rfl ?_
    refine ev_aload_n dModel_next_20 rfl ?_
    refine ev_getI hok fk_Model_95 (woModel hw) (fun _ _ _ => rfl) dModel_next_21 ?_
    refine ev_callV [.int ((I o 6))] [] (B' := (0, 0)) (B'' := (0, 0)) hok mmModel_sign mk_Model_81 (ci := 12) rfl rfl (woModel hw) rfl (Nat.le_of_ble_eq_true rfl) rfl (Nat.le_of_ble_eq_true rfl) dModel_next_24 rfl (by decide) H (fun v τ p2 => ?_)
    obtain ⟨r3, I4, L5, rfl, rfl, H⟩ := p2
    refine ev_bipush (32) dModel_next_27 (by decide) ?_
    refine ev_icmp_eq 45 dModel_next_29 (by decide) (fun c6 => ?_) (fun c6 => ?_)
    · have H := H.1 c6
      exact ev_sub [(0, .ref o)] rfl (sModel_next_45 o n sh Rf I4 L5 post  hok hw H)
    · have H := H.2 c6
      refine ev_aload_n dModel_next_32 rfl ?_
      refine ev_aload_n dModel_next_33 rfl ?_
      refine ev_getI hok fk_Model_95 (woModel hw) (fun _ _ _ => rfl) dModel_next_34 ?_
      refine ev_callV [.int ((I4 o 6))] [] (B' := (0, 0)) (B'' := (0, 0)) hok mmModel_sign mk_Model_81 (ci := 12) rfl rfl (woModel hw) rfl (Nat.le_of_ble_eq_true rfl) rfl (Nat.le_of_ble_eq_true rfl) dModel_next_37 rfl (by decide) H (fun v τ p7 => ?_)
      obtain ⟨r8, I9, L10, rfl, rfl, H⟩ := p7
      refine ev_bipush (10) dModel_next_40 (by decide) ?_
      refine ev_icmp_ne 58 dModel_next_42 (by decide) (fun c11 => ?_) (fun c11 => ?_)
      · have H := H.1 c11
        exact ev_sub [(0, .ref o)] rfl (sModel_next_58 o n sh Rf I9 L10 post  hok hw H)
      · have H := H.2 c11
        exact ev_sub [(0, .ref o)] rfl (sModel_next_45 o n sh Rf I9 L10 post  hok hw H)
def fModel_next_0 (D : va_G) (cA : FieldType → ClassId) (b : Nat) (E : State → Prop) (o : Nat) (n : Nat) (sh : Nat → qC) (Rf : Nat → Nat → Option Nat) (I : Nat → Nat → Int32) (L : Nat → Nat → Int64) (post : Option Value → qS → Prop)  : Prop :=
  ∀ I1 : Nat → Nat → Int32, q_u I o 6 (I o 7) = I1 → Ev (qGG D cA b E) mModel_next 2 (0, 0) 8 [(0, .ref o)] [] (n, sh, Rf, I1, L) post
set_option maxHeartbeats 4000000 in
set_option maxRecDepth 20000 in
theorem sModel_next_0 {D : va_G} {cA : FieldType → ClassId} {b : Nat} {E : State → Prop} (o : Nat) (n : Nat) (sh : Nat → qC) (Rf : Nat → Nat → Option Nat) (I : Nat → Nat → Int32) (L : Nat → Nat → Int64) (post : Option Value → qS → Prop)  (hok : q_ok (qGG D cA b E)) (hw : WfModel (qGG D cA b E) n sh Rf o) (H : fModel_next_0 D cA b E o n sh Rf I L post ) : Ev (qGG D cA b E) mModel_next 2 (0, 0) 0 [(0, .ref o)] [] (n, sh, Rf, I, L) post := by
  unfold fModel_next_0 at H
  refine ev_aload_n dModel_next_0 rfl ?_
  refine ev_aload_n dModel_next_1 rfl ?_
  refine ev_getI hok fk_Model_92 (woModel hw) (fun _ _ _ => rfl) dModel_next_2 ?_
  refine ev_putI hok fk_Model_95 (woModel hw) (fun _ _ _ => rfl) rfl rfl dModel_next_5 ?_
  generalize eI1 : q_u I o 6 (I o 7) = I1
  have H := H I1 eI1
  exact ev_sub [(0, .ref o)] rfl H
def fModel_note_210 (D : va_G) (cA : FieldType → ClassId) (b : Nat) (E : State → Prop) (o : Nat) (n : Nat) (sh : Nat → qC) (Rf : Nat → Nat → Option Nat) (I : Nat → Nat → Int32) (L : Nat → Nat → Int64) (post : Option Value → qS → Prop) (x1 : Int32) : Prop :=
  (((I o 66) ≤ x1 → post none (n, sh, Rf, I, L)) ∧ (¬ (I o 66) ≤ x1 → vp_in x1 6 ∧ vp_in ((6 * (I o 57)) + x1) 1440 ∧ ∀ L3 : Nat → Nat → Int64, q_u L (o + 75) (((6 * (I o 57)) + x1) : Int32).toNatClampNeg (L (o + 68) (x1 : Int32).toNatClampNeg) = L3 → vp_in x1 6 ∧ vp_in ((6 * (I o 57)) + x1) 1440 ∧ ∀ I6 : Nat → Nat → Int32, q_u I (o + 74) (((6 * (I o 57)) + x1) : Int32).toNatClampNeg (I (o + 70) (x1 : Int32).toNatClampNeg) = I6 → vp_in x1 6 ∧ vp_in ((6 * (I6 o 57)) + x1) 1440 ∧ ∀ L9 : Nat → Nat → Int64, q_u L3 (o + 76) (((6 * (I6 o 57)) + x1) : Int32).toNatClampNeg (L3 (o + 69) (x1 : Int32).toNatClampNeg) = L9 → Ev (qGG D cA b E) mModel_note 2 (0, 0) 210 [(0, .ref o), (1, .int ((x1 + Int32.ofInt 1)))] [] (n, sh, Rf, I6, L9) post))
set_option maxHeartbeats 4000000 in
set_option maxRecDepth 20000 in
theorem sModel_note_210 {D : va_G} {cA : FieldType → ClassId} {b : Nat} {E : State → Prop} (o : Nat) (n : Nat) (sh : Nat → qC) (Rf : Nat → Nat → Option Nat) (I : Nat → Nat → Int32) (L : Nat → Nat → Int64) (post : Option Value → qS → Prop) (x1 : Int32) (hok : q_ok (qGG D cA b E)) (hw : WfModel (qGG D cA b E) n sh Rf o) (H : fModel_note_210 D cA b E o n sh Rf I L post x1) : Ev (qGG D cA b E) mModel_note 2 (0, 0) 210 [(0, .ref o), (1, .int x1)] [] (n, sh, Rf, I, L) post := by
  unfold fModel_note_210 at H
  refine ev_iload_n dModel_note_210 rfl ?_
  refine ev_aload_n dModel_note_211 rfl ?_
  refine ev_getI hok fk_Model_387 (woModel hw) (fun _ _ _ => rfl) dModel_note_212 ?_
  refine ev_icmp_ge 284 dModel_note_215 (by decide) (fun c1 => ?_) (fun c1 => ?_)
  · have H := H.1 c1
    exact ev_vret rfl dModel_note_284 H
  · have H := H.2 c1
    refine ev_aload_n dModel_note_218 rfl ?_
    refine ev_getR hok fk_Model_754 (woModel hw) (fun _ _ _ => rfl) (wrModel_133 hw) dModel_note_219 ?_
    refine ev_bipush (6) dModel_note_222 (by decide) ?_
    refine ev_aload_n dModel_note_224 rfl ?_
    refine ev_getI hok fk_Model_348 (woModel hw) (fun _ _ _ => rfl) dModel_note_225 ?_
    refine ev_imul dModel_note_228 ?_
    refine ev_iload_n dModel_note_229 rfl ?_
    refine ev_iadd dModel_note_230 ?_
    refine ev_aload_n dModel_note_231 rfl ?_
    refine ev_getR hok fk_Model_578 (woModel hw) (fun _ _ _ => rfl) (wrModel_101 hw) dModel_note_232 ?_
    refine ev_iload_n dModel_note_235 rfl ?_
    obtain ⟨h2, H⟩ := H
    refine ev_lald hok (waModel_101 hw) h2 dModel_note_236 ?_
    obtain ⟨h4, H⟩ := H
    refine ev_last hok (waModel_133 hw) h4 dModel_note_237 ?_
    generalize eL3 : q_u L (o + 75) (((6 * (I o 57)) + x1) : Int32).toNatClampNeg (L (o + 68) (x1 : Int32).toNatClampNeg) = L3
    have H := H L3 eL3
    refine ev_aload_n dModel_note_238 rfl ?_
    refine ev_getR hok fk_Model_757 (woModel hw) (fun _ _ _ => rfl) (wrModel_132 hw) dModel_note_239 ?_
    refine ev_bipush (6) dModel_note_242 (by decide) ?_
    refine ev_aload_n dModel_note_244 rfl ?_
    refine ev_getI hok fk_Model_348 (woModel hw) (fun _ _ _ => rfl) dModel_note_245 ?_
    refine ev_imul dModel_note_248 ?_
    refine ev_iload_n dModel_note_249 rfl ?_
    refine ev_iadd dModel_note_250 ?_
    refine ev_aload_n dModel_note_251 rfl ?_
    refine ev_getR hok fk_Model_688 (woModel hw) (fun _ _ _ => rfl) (wrModel_103 hw) dModel_note_252 ?_
    refine ev_iload_n dModel_note_255 rfl ?_
    obtain ⟨h5, H⟩ := H
    refine ev_iald hok (waModel_103 hw) h5 dModel_note_256 ?_
    obtain ⟨h7, H⟩ := H
    refine ev_iast hok (waModel_132 hw) h7 dModel_note_257 ?_
    generalize eI6 : q_u I (o + 74) (((6 * (I o 57)) + x1) : Int32).toNatClampNeg (I (o + 70) (x1 : Int32).toNatClampNeg) = I6
    have H := H I6 eI6
    refine ev_aload_n dModel_note_258 rfl ?_
    refine ev_getR hok fk_Model_760 (woModel hw) (fun _ _ _ => rfl) (wrModel_134 hw) dModel_note_259 ?_
    refine ev_bipush (6) dModel_note_262 (by decide) ?_
    refine ev_aload_n dModel_note_264 rfl ?_
    refine ev_getI hok fk_Model_348 (woModel hw) (fun _ _ _ => rfl) dModel_note_265 ?_
    refine ev_imul dModel_note_268 ?_
    refine ev_iload_n dModel_note_269 rfl ?_
    refine ev_iadd dModel_note_270 ?_
    refine ev_aload_n dModel_note_271 rfl ?_
    refine ev_getR hok fk_Model_691 (woModel hw) (fun _ _ _ => rfl) (wrModel_102 hw) dModel_note_272 ?_
    refine ev_iload_n dModel_note_275 rfl ?_
    obtain ⟨h8, H⟩ := H
    refine ev_lald hok (waModel_102 hw) h8 dModel_note_276 ?_
    obtain ⟨h10, H⟩ := H
    refine ev_last hok (waModel_134 hw) h10 dModel_note_277 ?_
    generalize eL9 : q_u L3 (o + 76) (((6 * (I6 o 57)) + x1) : Int32).toNatClampNeg (L3 (o + 69) (x1 : Int32).toNatClampNeg) = L9
    have H := H L9 eL9
    refine ev_iinc dModel_note_278 rfl (by decide) ?_
    refine ev_goto 210 dModel_note_281 (by decide) ?_
    exact ev_sub [(0, .ref o), (1, .int ((x1 + Int32.ofInt 1)))] rfl H
def fModel_note_125 (D : va_G) (cA : FieldType → ClassId) (b : Nat) (E : State → Prop) (o : Nat) (n : Nat) (sh : Nat → qC) (Rf : Nat → Nat → Option Nat) (I : Nat → Nat → Int32) (L : Nat → Nat → Int64) (post : Option Value → qS → Prop) (x1 : Int32) : Prop :=
  Ev (qGG D cA b E) mModel_towns 0 (0, 0) 0 (lv_args 0 [.ref o]) [] (n, sh, Rf, I, L) (fun v τ => ∃ (r2 : Int32) (I3 : Nat → Nat → Int32) (L4 : Nat → Nat → Int64), v = some (.int r2) ∧ τ = (n, sh, Rf, I3, L4) ∧ ((r2 ≤ x1 → Ev (qGG D cA b E) mModel_note 2 (0, 0) 210 [(0, .ref o), (1, .int 0)] [] (n, sh, Rf, I3, L4) post) ∧ (¬ r2 ≤ x1 → vp_in x1 5 ∧ vp_in ((15 * (I3 o 57)) + (3 * x1)) 3600 ∧ ∀ I7 : Nat → Nat → Int32, q_u I3 (o + 73) (((15 * (I3 o 57)) + (3 * x1)) : Int32).toNatClampNeg (I3 (o + 45) (x1 : Int32).toNatClampNeg) = I7 → Ev (qGG D cA b E) mModel_priceOf 0 (0, 0) 0 (lv_args 0 [.ref o, .int x1]) [] (n, sh, Rf, I7, L4) (fun v τ => ∃ (r10 : Int32) (I11 : Nat → Nat → Int32) (L12 : Nat → Nat → Int64), v = some (.int r10) ∧ τ = (n, sh, Rf, I11, L12) ∧ vp_in (((15 * (I7 o 57)) + (3 * x1)) + 1) 3600 ∧ ∀ I13 : Nat → Nat → Int32, q_u I11 (o + 73) ((((15 * (I7 o 57)) + (3 * x1)) + 1) : Int32).toNatClampNeg r10 = I13 → vp_in x1 5 ∧ vp_in (((15 * (I13 o 57)) + (3 * x1)) + 2) 3600 ∧ ∀ I16 : Nat → Nat → Int32, q_u I13 (o + 73) ((((15 * (I13 o 57)) + (3 * x1)) + 2) : Int32).toNatClampNeg (I13 (o + 47) (x1 : Int32).toNatClampNeg) = I16 → Ev (qGG D cA b E) mModel_note 2 (0, 0) 125 [(0, .ref o), (1, .int ((x1 + Int32.ofInt 1)))] [] (n, sh, Rf, I16, L12) post))))
set_option maxHeartbeats 4000000 in
set_option maxRecDepth 20000 in
theorem sModel_note_125 {D : va_G} {cA : FieldType → ClassId} {b : Nat} {E : State → Prop} (o : Nat) (n : Nat) (sh : Nat → qC) (Rf : Nat → Nat → Option Nat) (I : Nat → Nat → Int32) (L : Nat → Nat → Int64) (post : Option Value → qS → Prop) (x1 : Int32) (hok : q_ok (qGG D cA b E)) (hw : WfModel (qGG D cA b E) n sh Rf o) (H : fModel_note_125 D cA b E o n sh Rf I L post x1) : Ev (qGG D cA b E) mModel_note 2 (0, 0) 125 [(0, .ref o), (1, .int x1)] [] (n, sh, Rf, I, L) post := by
  unfold fModel_note_125 at H
  refine ev_iload_n dModel_note_125 rfl ?_
  refine ev_aload_n dModel_note_126 rfl ?_
  refine ev_callV [] [.int x1] (B' := (0, 0)) (B'' := (0, 0)) hok mmModel_towns mk_Model_488 (ci := 12) rfl rfl (woModel hw) rfl (Nat.le_of_ble_eq_true rfl) rfl (Nat.le_of_ble_eq_true rfl) dModel_note_127 rfl (by decide) H (fun v τ p1 => ?_)
  obtain ⟨r2, I3, L4, rfl, rfl, H⟩ := p1
  refine ev_icmp_ge 208 dModel_note_130 (by decide) (fun c5 => ?_) (fun c5 => ?_)
  · have H := H.1 c5
    refine ev_iconst (0) dModel_note_208 (by decide) ?_
    refine ev_istore_n dModel_note_209 (by decide) ?_
    exact ev_sub [(0, .ref o), (1, .int 0)] rfl H
  · have H := H.2 c5
    refine ev_aload_n dModel_note_133 rfl ?_
    refine ev_getR hok fk_Model_751 (woModel hw) (fun _ _ _ => rfl) (wrModel_131 hw) dModel_note_134 ?_
    refine ev_bipush (15) dModel_note_137 (by decide) ?_
    refine ev_aload_n dModel_note_139 rfl ?_
    refine ev_getI hok fk_Model_348 (woModel hw) (fun _ _ _ => rfl) dModel_note_140 ?_
    refine ev_imul dModel_note_143 ?_
    refine ev_iconst (3) dModel_note_144 (by decide) ?_
    refine ev_iload_n dModel_note_145 rfl ?_
    refine ev_imul dModel_note_146 ?_
    refine ev_iadd dModel_note_147 ?_
    refine ev_aload_n dModel_note_148 rfl ?_
    refine ev_getR hok fk_Model_474 (woModel hw) (fun _ _ _ => rfl) (wrModel_78 hw) dModel_note_149 ?_
    refine ev_iload_n dModel_note_152 rfl ?_
    obtain ⟨h6, H⟩ := H
    refine ev_iald hok (waModel_78 hw) h6 dModel_note_153 ?_
    obtain ⟨h8, H⟩ := H
    refine ev_iast hok (waModel_131 hw) h8 dModel_note_154 ?_
    generalize eI7 : q_u I3 (o + 73) (((15 * (I3 o 57)) + (3 * x1)) : Int32).toNatClampNeg (I3 (o + 45) (x1 : Int32).toNatClampNeg) = I7
    have H := H I7 eI7
    refine ev_aload_n dModel_note_155 rfl ?_
    refine ev_getR hok fk_Model_751 (woModel hw) (fun _ _ _ => rfl) (wrModel_131 hw) dModel_note_156 ?_
    refine ev_bipush (15) dModel_note_159 (by decide) ?_
    refine ev_aload_n dModel_note_161 rfl ?_
    refine ev_getI hok fk_Model_348 (woModel hw) (fun _ _ _ => rfl) dModel_note_162 ?_
    refine ev_imul dModel_note_165 ?_
    refine ev_iconst (3) dModel_note_166 (by decide) ?_
    refine ev_iload_n dModel_note_167 rfl ?_
    refine ev_imul dModel_note_168 ?_
    refine ev_iadd dModel_note_169 ?_
    refine ev_iconst (1) dModel_note_170 (by decide) ?_
    refine ev_iadd dModel_note_171 ?_
    refine ev_aload_n dModel_note_172 rfl ?_
    refine ev_iload_n dModel_note_173 rfl ?_
    refine ev_callV [.int x1] [.int ((((15 * (I7 o 57)) + (3 * x1)) + 1)), .ref ((o + 73))] (B' := (0, 0)) (B'' := (0, 0)) hok mmModel_priceOf mk_Model_497 (ci := 12) rfl rfl (woModel hw) rfl (Nat.le_of_ble_eq_true rfl) rfl (Nat.le_of_ble_eq_true rfl) dModel_note_174 rfl (by decide) H (fun v τ p9 => ?_)
    obtain ⟨r10, I11, L12, rfl, rfl, H⟩ := p9
    obtain ⟨h14, H⟩ := H
    refine ev_iast hok (waModel_131 hw) h14 dModel_note_177 ?_
    generalize eI13 : q_u I11 (o + 73) ((((15 * (I7 o 57)) + (3 * x1)) + 1) : Int32).toNatClampNeg r10 = I13
    have H := H I13 eI13
    refine ev_aload_n dModel_note_178 rfl ?_
    refine ev_getR hok fk_Model_751 (woModel hw) (fun _ _ _ => rfl) (wrModel_131 hw) dModel_note_179 ?_
    refine ev_bipush (15) dModel_note_182 (by decide) ?_
    refine ev_aload_n dModel_note_184 rfl ?_
    refine ev_getI hok fk_Model_348 (woModel hw) (fun _ _ _ => rfl) dModel_note_185 ?_
    refine ev_imul dModel_note_188 ?_
    refine ev_iconst (3) dModel_note_189 (by decide) ?_
    refine ev_iload_n dModel_note_190 rfl ?_
    refine ev_imul dModel_note_191 ?_
    refine ev_iadd dModel_note_192 ?_
    refine ev_iconst (2) dModel_note_193 (by decide) ?_
    refine ev_iadd dModel_note_194 ?_
    refine ev_aload_n dModel_note_195 rfl ?_
    refine ev_getR hok fk_Model_694 (woModel hw) (fun _ _ _ => rfl) (wrModel_80 hw) dModel_note_196 ?_
    refine ev_iload_n dModel_note_199 rfl ?_
    obtain ⟨h15, H⟩ := H
    refine ev_iald hok (waModel_80 hw) h15 dModel_note_200 ?_
    obtain ⟨h17, H⟩ := H
    refine ev_iast hok (waModel_131 hw) h17 dModel_note_201 ?_
    generalize eI16 : q_u I13 (o + 73) ((((15 * (I13 o 57)) + (3 * x1)) + 2) : Int32).toNatClampNeg (I13 (o + 47) (x1 : Int32).toNatClampNeg) = I16
    have H := H I16 eI16
    refine ev_iinc dModel_note_202 rfl (by decide) ?_
    refine ev_goto 125 dModel_note_205 (by decide) ?_
    exact ev_sub [(0, .ref o), (1, .int ((x1 + Int32.ofInt 1)))] rfl H
def fModel_note_64 (D : va_G) (cA : FieldType → ClassId) (b : Nat) (E : State → Prop) (o : Nat) (n : Nat) (sh : Nat → qC) (Rf : Nat → Nat → Option Nat) (I : Nat → Nat → Int32) (L : Nat → Nat → Int64) (post : Option Value → qS → Prop) (x1 : Int32) : Prop :=
  Ev (qGG D cA b E) mModel_pans 0 (0, 0) 0 (lv_args 0 [.ref o]) [] (n, sh, Rf, I, L) (fun v τ => ∃ (r2 : Int32) (I3 : Nat → Nat → Int32) (L4 : Nat → Nat → Int64), v = some (.int r2) ∧ τ = (n, sh, Rf, I3, L4) ∧ ((r2 ≤ x1 → Ev (qGG D cA b E) mModel_note 2 (0, 0) 125 [(0, .ref o), (1, .int 0)] [] (n, sh, Rf, I3, L4) post) ∧ (¬ r2 ≤ x1 → vp_in x1 3 ∧ vp_in ((6 * (I3 o 57)) + (2 * x1)) 1440 ∧ ∀ I7 : Nat → Nat → Int32, q_u I3 (o + 72) (((6 * (I3 o 57)) + (2 * x1)) : Int32).toNatClampNeg (I3 (o + 44) (x1 : Int32).toNatClampNeg) = I7 → Ev (qGG D cA b E) mModel_waitingAt 1 (0, 0) 0 (lv_args 0 [.ref o, .int x1]) [] (n, sh, Rf, I7, L4) (fun v τ => ∃ (r10 : Int32) (I11 : Nat → Nat → Int32) (L12 : Nat → Nat → Int64), v = some (.int r10) ∧ τ = (n, sh, Rf, I11, L12) ∧ vp_in (((6 * (I7 o 57)) + (2 * x1)) + 1) 1440 ∧ ∀ I13 : Nat → Nat → Int32, q_u I11 (o + 72) ((((6 * (I7 o 57)) + (2 * x1)) + 1) : Int32).toNatClampNeg r10 = I13 → Ev (qGG D cA b E) mModel_note 2 (0, 0) 64 [(0, .ref o), (1, .int ((x1 + Int32.ofInt 1)))] [] (n, sh, Rf, I13, L12) post))))
set_option maxHeartbeats 4000000 in
set_option maxRecDepth 20000 in
theorem sModel_note_64 {D : va_G} {cA : FieldType → ClassId} {b : Nat} {E : State → Prop} (o : Nat) (n : Nat) (sh : Nat → qC) (Rf : Nat → Nat → Option Nat) (I : Nat → Nat → Int32) (L : Nat → Nat → Int64) (post : Option Value → qS → Prop) (x1 : Int32) (hok : q_ok (qGG D cA b E)) (hw : WfModel (qGG D cA b E) n sh Rf o) (H : fModel_note_64 D cA b E o n sh Rf I L post x1) : Ev (qGG D cA b E) mModel_note 2 (0, 0) 64 [(0, .ref o), (1, .int x1)] [] (n, sh, Rf, I, L) post := by
  unfold fModel_note_64 at H
  refine ev_iload_n dModel_note_64 rfl ?_
  refine ev_aload_n dModel_note_65 rfl ?_
  refine ev_callV [] [.int x1] (B' := (0, 0)) (B'' := (0, 0)) hok mmModel_pans mk_Model_433 (ci := 12) rfl rfl (woModel hw) rfl (Nat.le_of_ble_eq_true rfl) rfl (Nat.le_of_ble_eq_true rfl) dModel_note_66 rfl (by decide) H (fun v τ p1 => ?_)
  obtain ⟨r2, I3, L4, rfl, rfl, H⟩ := p1
  refine ev_icmp_ge 123 dModel_note_69 (by decide) (fun c5 => ?_) (fun c5 => ?_)
  · have H := H.1 c5
    refine ev_iconst (0) dModel_note_123 (by decide) ?_
    refine ev_istore_n dModel_note_124 (by decide) ?_
    exact ev_sub [(0, .ref o), (1, .int 0)] rfl H
  · have H := H.2 c5
    refine ev_aload_n dModel_note_72 rfl ?_
    refine ev_getR hok fk_Model_748 (woModel hw) (fun _ _ _ => rfl) (wrModel_130 hw) dModel_note_73 ?_
    refine ev_bipush (6) dModel_note_76 (by decide) ?_
    refine ev_aload_n dModel_note_78 rfl ?_
    refine ev_getI hok fk_Model_348 (woModel hw) (fun _ _ _ => rfl) dModel_note_79 ?_
    refine ev_imul dModel_note_82 ?_
    refine ev_iconst (2) dModel_note_83 (by decide) ?_
    refine ev_iload_n dModel_note_84 rfl ?_
    refine ev_imul dModel_note_85 ?_
    refine ev_iadd dModel_note_86 ?_
    refine ev_aload_n dModel_note_87 rfl ?_
    refine ev_getR hok fk_Model_469 (woModel hw) (fun _ _ _ => rfl) (wrModel_77 hw) dModel_note_88 ?_
    refine ev_iload_n dModel_note_91 rfl ?_
    obtain ⟨h6, H⟩ := H
    refine ev_iald hok (waModel_77 hw) h6 dModel_note_92 ?_
    obtain ⟨h8, H⟩ := H
    refine ev_iast hok (waModel_130 hw) h8 dModel_note_93 ?_
    generalize eI7 : q_u I3 (o + 72) (((6 * (I3 o 57)) + (2 * x1)) : Int32).toNatClampNeg (I3 (o + 44) (x1 : Int32).toNatClampNeg) = I7
    have H := H I7 eI7
    refine ev_aload_n dModel_note_94 rfl ?_
    refine ev_getR hok fk_Model_748 (woModel hw) (fun _ _ _ => rfl) (wrModel_130 hw) dModel_note_95 ?_
    refine ev_bipush (6) dModel_note_98 (by decide) ?_
    refine ev_aload_n dModel_note_100 rfl ?_
    refine ev_getI hok fk_Model_348 (woModel hw) (fun _ _ _ => rfl) dModel_note_101 ?_
    refine ev_imul dModel_note_104 ?_
    refine ev_iconst (2) dModel_note_105 (by decide) ?_
    refine ev_iload_n dModel_note_106 rfl ?_
    refine ev_imul dModel_note_107 ?_
    refine ev_iadd dModel_note_108 ?_
    refine ev_iconst (1) dModel_note_109 (by decide) ?_
    refine ev_iadd dModel_note_110 ?_
    refine ev_aload_n dModel_note_111 rfl ?_
    refine ev_iload_n dModel_note_112 rfl ?_
    refine ev_callV [.int x1] [.int ((((6 * (I7 o 57)) + (2 * x1)) + 1)), .ref ((o + 72))] (B' := (0, 0)) (B'' := (0, 0)) hok mmModel_waitingAt mk_Model_466 (ci := 12) rfl rfl (woModel hw) rfl (Nat.le_of_ble_eq_true rfl) rfl (Nat.le_of_ble_eq_true rfl) dModel_note_113 rfl (by decide) H (fun v τ p9 => ?_)
    obtain ⟨r10, I11, L12, rfl, rfl, H⟩ := p9
    obtain ⟨h14, H⟩ := H
    refine ev_iast hok (waModel_130 hw) h14 dModel_note_116 ?_
    generalize eI13 : q_u I11 (o + 72) ((((6 * (I7 o 57)) + (2 * x1)) + 1) : Int32).toNatClampNeg r10 = I13
    have H := H I13 eI13
    refine ev_iinc dModel_note_117 rfl (by decide) ?_
    refine ev_goto 64 dModel_note_120 (by decide) ?_
    exact ev_sub [(0, .ref o), (1, .int ((x1 + Int32.ofInt 1)))] rfl H
def fModel_note_2 (D : va_G) (cA : FieldType → ClassId) (b : Nat) (E : State → Prop) (o : Nat) (n : Nat) (sh : Nat → qC) (Rf : Nat → Nat → Option Nat) (I : Nat → Nat → Int32) (L : Nat → Nat → Int64) (post : Option Value → qS → Prop) (x1 : Int32) : Prop :=
  Ev (qGG D cA b E) mModel_forts 0 (0, 0) 0 (lv_args 0 [.ref o]) [] (n, sh, Rf, I, L) (fun v τ => ∃ (r2 : Int32) (I3 : Nat → Nat → Int32) (L4 : Nat → Nat → Int64), v = some (.int r2) ∧ τ = (n, sh, Rf, I3, L4) ∧ ((r2 ≤ x1 → Ev (qGG D cA b E) mModel_note 2 (0, 0) 64 [(0, .ref o), (1, .int 0)] [] (n, sh, Rf, I3, L4) post) ∧ (¬ r2 ≤ x1 → vp_in x1 3 ∧ vp_in ((6 * (I3 o 57)) + (2 * x1)) 1440 ∧ ∀ I7 : Nat → Nat → Int32, q_u I3 (o + 71) (((6 * (I3 o 57)) + (2 * x1)) : Int32).toNatClampNeg (I3 (o + 42) (x1 : Int32).toNatClampNeg) = I7 → vp_in x1 3 ∧ vp_in (((6 * (I7 o 57)) + (2 * x1)) + 1) 1440 ∧ ∀ I10 : Nat → Nat → Int32, q_u I7 (o + 71) ((((6 * (I7 o 57)) + (2 * x1)) + 1) : Int32).toNatClampNeg (I7 (o + 43) (x1 : Int32).toNatClampNeg) = I10 → Ev (qGG D cA b E) mModel_note 2 (0, 0) 2 [(0, .ref o), (1, .int ((x1 + Int32.ofInt 1)))] [] (n, sh, Rf, I10, L4) post)))
set_option maxHeartbeats 4000000 in
set_option maxRecDepth 20000 in
theorem sModel_note_2 {D : va_G} {cA : FieldType → ClassId} {b : Nat} {E : State → Prop} (o : Nat) (n : Nat) (sh : Nat → qC) (Rf : Nat → Nat → Option Nat) (I : Nat → Nat → Int32) (L : Nat → Nat → Int64) (post : Option Value → qS → Prop) (x1 : Int32) (hok : q_ok (qGG D cA b E)) (hw : WfModel (qGG D cA b E) n sh Rf o) (H : fModel_note_2 D cA b E o n sh Rf I L post x1) : Ev (qGG D cA b E) mModel_note 2 (0, 0) 2 [(0, .ref o), (1, .int x1)] [] (n, sh, Rf, I, L) post := by
  unfold fModel_note_2 at H
  refine ev_iload_n dModel_note_2 rfl ?_
  refine ev_aload_n dModel_note_3 rfl ?_
  refine ev_callV [] [.int x1] (B' := (0, 0)) (B'' := (0, 0)) hok mmModel_forts mk_Model_624 (ci := 12) rfl rfl (woModel hw) rfl (Nat.le_of_ble_eq_true rfl) rfl (Nat.le_of_ble_eq_true rfl) dModel_note_4 rfl (by decide) H (fun v τ p1 => ?_)
  obtain ⟨r2, I3, L4, rfl, rfl, H⟩ := p1
  refine ev_icmp_ge 62 dModel_note_7 (by decide) (fun c5 => ?_) (fun c5 => ?_)
  · have H := H.1 c5
    refine ev_iconst (0) dModel_note_62 (by decide) ?_
    refine ev_istore_n dModel_note_63 (by decide) ?_
    exact ev_sub [(0, .ref o), (1, .int 0)] rfl H
  · have H := H.2 c5
    refine ev_aload_n dModel_note_10 rfl ?_
    refine ev_getR hok fk_Model_745 (woModel hw) (fun _ _ _ => rfl) (wrModel_129 hw) dModel_note_11 ?_
    refine ev_bipush (6) dModel_note_14 (by decide) ?_
    refine ev_aload_n dModel_note_16 rfl ?_
    refine ev_getI hok fk_Model_348 (woModel hw) (fun _ _ _ => rfl) dModel_note_17 ?_
    refine ev_imul dModel_note_20 ?_
    refine ev_iconst (2) dModel_note_21 (by decide) ?_
    refine ev_iload_n dModel_note_22 rfl ?_
    refine ev_imul dModel_note_23 ?_
    refine ev_iadd dModel_note_24 ?_
    refine ev_aload_n dModel_note_25 rfl ?_
    refine ev_getR hok fk_Model_513 (woModel hw) (fun _ _ _ => rfl) (wrModel_75 hw) dModel_note_26 ?_
    refine ev_iload_n dModel_note_29 rfl ?_
    obtain ⟨h6, H⟩ := H
    refine ev_iald hok (waModel_75 hw) h6 dModel_note_30 ?_
    obtain ⟨h8, H⟩ := H
    refine ev_iast hok (waModel_129 hw) h8 dModel_note_31 ?_
    generalize eI7 : q_u I3 (o + 71) (((6 * (I3 o 57)) + (2 * x1)) : Int32).toNatClampNeg (I3 (o + 42) (x1 : Int32).toNatClampNeg) = I7
    have H := H I7 eI7
    refine ev_aload_n dModel_note_32 rfl ?_
    refine ev_getR hok fk_Model_745 (woModel hw) (fun _ _ _ => rfl) (wrModel_129 hw) dModel_note_33 ?_
    refine ev_bipush (6) dModel_note_36 (by decide) ?_
    refine ev_aload_n dModel_note_38 rfl ?_
    refine ev_getI hok fk_Model_348 (woModel hw) (fun _ _ _ => rfl) dModel_note_39 ?_
    refine ev_imul dModel_note_42 ?_
    refine ev_iconst (2) dModel_note_43 (by decide) ?_
    refine ev_iload_n dModel_note_44 rfl ?_
    refine ev_imul dModel_note_45 ?_
    refine ev_iadd dModel_note_46 ?_
    refine ev_iconst (1) dModel_note_47 (by decide) ?_
    refine ev_iadd dModel_note_48 ?_
    refine ev_aload_n dModel_note_49 rfl ?_
    refine ev_getR hok fk_Model_627 (woModel hw) (fun _ _ _ => rfl) (wrModel_76 hw) dModel_note_50 ?_
    refine ev_iload_n dModel_note_53 rfl ?_
    obtain ⟨h9, H⟩ := H
    refine ev_iald hok (waModel_76 hw) h9 dModel_note_54 ?_
    obtain ⟨h11, H⟩ := H
    refine ev_iast hok (waModel_129 hw) h11 dModel_note_55 ?_
    generalize eI10 : q_u I7 (o + 71) ((((6 * (I7 o 57)) + (2 * x1)) + 1) : Int32).toNatClampNeg (I7 (o + 43) (x1 : Int32).toNatClampNeg) = I10
    have H := H I10 eI10
    refine ev_iinc dModel_note_56 rfl (by decide) ?_
    refine ev_goto 2 dModel_note_59 (by decide) ?_
    exact ev_sub [(0, .ref o), (1, .int ((x1 + Int32.ofInt 1)))] rfl H
def fModel_note_0 (D : va_G) (cA : FieldType → ClassId) (b : Nat) (E : State → Prop) (o : Nat) (n : Nat) (sh : Nat → qC) (Rf : Nat → Nat → Option Nat) (I : Nat → Nat → Int32) (L : Nat → Nat → Int64) (post : Option Value → qS → Prop)  : Prop :=
  Ev (qGG D cA b E) mModel_note 2 (0, 0) 2 [(0, .ref o), (1, .int 0)] [] (n, sh, Rf, I, L) post
set_option maxHeartbeats 4000000 in
set_option maxRecDepth 20000 in
theorem sModel_note_0 {D : va_G} {cA : FieldType → ClassId} {b : Nat} {E : State → Prop} (o : Nat) (n : Nat) (sh : Nat → qC) (Rf : Nat → Nat → Option Nat) (I : Nat → Nat → Int32) (L : Nat → Nat → Int64) (post : Option Value → qS → Prop)  (hok : q_ok (qGG D cA b E)) (hw : WfModel (qGG D cA b E) n sh Rf o) (H : fModel_note_0 D cA b E o n sh Rf I L post ) : Ev (qGG D cA b E) mModel_note 2 (0, 0) 0 [(0, .ref o)] [] (n, sh, Rf, I, L) post := by
  unfold fModel_note_0 at H
  refine ev_iconst (0) dModel_note_0 (by decide) ?_
  refine ev_istore_n dModel_note_1 (by decide) ?_
  exact ev_sub [(0, .ref o), (1, .int 0)] rfl H
def fModel_rankHere_91 (D : va_G) (cA : FieldType → ClassId) (b : Nat) (E : State → Prop) (o : Nat) (n : Nat) (sh : Nat → qC) (Rf : Nat → Nat → Option Nat) (I : Nat → Nat → Int32) (L : Nat → Nat → Int64) (post : Option Value → qS → Prop)  : Prop :=
  post (some (.int 6)) (n, sh, Rf, I, L)
set_option maxHeartbeats 4000000 in
set_option maxRecDepth 20000 in
theorem sModel_rankHere_91 {D : va_G} {cA : FieldType → ClassId} {b : Nat} {E : State → Prop} (o : Nat) (n : Nat) (sh : Nat → qC) (Rf : Nat → Nat → Option Nat) (I : Nat → Nat → Int32) (L : Nat → Nat → Int64) (post : Option Value → qS → Prop)  (hok : q_ok (qGG D cA b E)) (hw : WfModel (qGG D cA b E) n sh Rf o) (H : fModel_rankHere_91 D cA b E o n sh Rf I L post ) : Ev (qGG D cA b E) mModel_rankHere 2 (0, 0) 91 [(0, .ref o)] [] (n, sh, Rf, I, L) post := by
  unfold fModel_rankHere_91 at H
  refine ev_bipush (6) dModel_rankHere_91 (by decide) ?_
  refine ev_goto 97 dModel_rankHere_93 (by decide) ?_
  exact ev_iret rfl dModel_rankHere_97 H
def fModel_rankHere_0 (D : va_G) (cA : FieldType → ClassId) (b : Nat) (E : State → Prop) (o : Nat) (n : Nat) (sh : Nat → qC) (Rf : Nat → Nat → Option Nat) (I : Nat → Nat → Int32) (L : Nat → Nat → Int64) (post : Option Value → qS → Prop)  : Prop :=
  Ev (qGG D cA b E) mModel_isWord 0 (0, 0) 0 (lv_args 0 [.ref o, .long 6385252]) [] (n, sh, Rf, I, L) (fun v τ => ∃ (r2 : Int32) (I3 : Nat → Nat → Int32) (L4 : Nat → Nat → Int64), v = some (.int r2) ∧ τ = (n, sh, Rf, I3, L4) ∧ ((r2 = 0 → Ev (qGG D cA b E) mModel_isWord 0 (0, 0) 0 (lv_args 0 [.ref o, .long 28530]) [] (n, sh, Rf, I3, L4) (fun v τ => ∃ (r7 : Int32) (I8 : Nat → Nat → Int32) (L9 : Nat → Nat → Int64), v = some (.int r7) ∧ τ = (n, sh, Rf, I8, L9) ∧ ((r7 = 0 → Ev (qGG D cA b E) mModel_is 1 (0, 0) 0 (lv_args 0 [.ref o, .int 60]) [] (n, sh, Rf, I8, L9) (fun v τ => ∃ (r12 : Int32) (I13 : Nat → Nat → Int32) (L14 : Nat → Nat → Int64), v = some (.int r12) ∧ τ = (n, sh, Rf, I13, L14) ∧ ((¬ r12 = 0 → post (some (.int 4)) (n, sh, Rf, I13, L14)) ∧ (r12 = 0 → Ev (qGG D cA b E) mModel_is 1 (0, 0) 0 (lv_args 0 [.ref o, .int 62]) [] (n, sh, Rf, I13, L14) (fun v τ => ∃ (r17 : Int32) (I18 : Nat → Nat → Int32) (L19 : Nat → Nat → Int64), v = some (.int r17) ∧ τ = (n, sh, Rf, I18, L19) ∧ ((¬ r17 = 0 → post (some (.int 4)) (n, sh, Rf, I18, L19)) ∧ (r17 = 0 → Ev (qGG D cA b E) mModel_is 1 (0, 0) 0 (lv_args 0 [.ref o, .int 61]) [] (n, sh, Rf, I18, L19) (fun v τ => ∃ (r22 : Int32) (I23 : Nat → Nat → Int32) (L24 : Nat → Nat → Int64), v = some (.int r22) ∧ τ = (n, sh, Rf, I23, L24) ∧ ((r22 = 0 → Ev (qGG D cA b E) mModel_is 1 (0, 0) 0 (lv_args 0 [.ref o, .int 43]) [] (n, sh, Rf, I23, L24) (fun v τ => ∃ (r27 : Int32) (I28 : Nat → Nat → Int32) (L29 : Nat → Nat → Int64), v = some (.int r27) ∧ τ = (n, sh, Rf, I28, L29) ∧ ((¬ r27 = 0 → post (some (.int 5)) (n, sh, Rf, I28, L29)) ∧ (r27 = 0 → Ev (qGG D cA b E) mModel_is 1 (0, 0) 0 (lv_args 0 [.ref o, .int 45]) [] (n, sh, Rf, I28, L29) (fun v τ => ∃ (r32 : Int32) (I33 : Nat → Nat → Int32) (L34 : Nat → Nat → Int64), v = some (.int r32) ∧ τ = (n, sh, Rf, I33, L34) ∧ ((r32 = 0 → Ev (qGG D cA b E) mModel_is 1 (0, 0) 0 (lv_args 0 [.ref o, .int 42]) [] (n, sh, Rf, I33, L34) (fun v τ => ∃ (r37 : Int32) (I38 : Nat → Nat → Int32) (L39 : Nat → Nat → Int64), v = some (.int r37) ∧ τ = (n, sh, Rf, I38, L39) ∧ ((¬ r37 = 0 → fModel_rankHere_91 D cA b E o n sh Rf I38 L39 post ) ∧ (r37 = 0 → Ev (qGG D cA b E) mModel_is 1 (0, 0) 0 (lv_args 0 [.ref o, .int 47]) [] (n, sh, Rf, I38, L39) (fun v τ => ∃ (r42 : Int32) (I43 : Nat → Nat → Int32) (L44 : Nat → Nat → Int64), v = some (.int r42) ∧ τ = (n, sh, Rf, I43, L44) ∧ ((r42 = 0 → post (some (.int 0)) (n, sh, Rf, I43, L44)) ∧ (¬ r42 = 0 → fModel_rankHere_91 D cA b E o n sh Rf I43 L44 post ))))))) ∧ (¬ r32 = 0 → post (some (.int 5)) (n, sh, Rf, I33, L34)))))))) ∧ (¬ r22 = 0 → post (some (.int 4)) (n, sh, Rf, I23, L24))))))))))) ∧ (¬ r7 = 0 → post (some (.int 1)) (n, sh, Rf, I8, L9))))) ∧ (¬ r2 = 0 → post (some (.int 2)) (n, sh, Rf, I3, L4))))
set_option maxHeartbeats 4000000 in
set_option maxRecDepth 20000 in
theorem sModel_rankHere_0 {D : va_G} {cA : FieldType → ClassId} {b : Nat} {E : State → Prop} (o : Nat) (n : Nat) (sh : Nat → qC) (Rf : Nat → Nat → Option Nat) (I : Nat → Nat → Int32) (L : Nat → Nat → Int64) (post : Option Value → qS → Prop)  (hok : q_ok (qGG D cA b E)) (hw : WfModel (qGG D cA b E) n sh Rf o) (H : fModel_rankHere_0 D cA b E o n sh Rf I L post ) : Ev (qGG D cA b E) mModel_rankHere 2 (0, 0) 0 [(0, .ref o)] [] (n, sh, Rf, I, L) post := by
  unfold fModel_rankHere_0 at H
  refine ev_aload_n dModel_rankHere_0 rfl ?_
  refine ev_ldc2 (6385252) dModel_rankHere_1 (q_t7 12 (by decide +kernel) rfl) ?_
  refine ev_callV [.long 6385252] [] (B' := (0, 0)) (B'' := (0, 0)) hok mmModel_isWord mk_Model_178 (ci := 12) rfl rfl (woModel hw) rfl (Nat.le_of_ble_eq_true rfl) rfl (Nat.le_of_ble_eq_true rfl) dModel_rankHere_4 rfl (by decide) H (fun v τ p1 => ?_)
  obtain ⟨r2, I3, L4, rfl, rfl, H⟩ := p1
  refine ev_if_eq 12 dModel_rankHere_7 (by decide) (fun c5 => ?_) (fun c5 => ?_)
  · have H := H.1 c5
    refine ev_aload_n dModel_rankHere_12 rfl ?_
    refine ev_ldc2 (28530) dModel_rankHere_13 (q_t7 13 (by decide +kernel) rfl) ?_
    refine ev_callV [.long 28530] [] (B' := (0, 0)) (B'' := (0, 0)) hok mmModel_isWord mk_Model_178 (ci := 12) rfl rfl (woModel hw) rfl (Nat.le_of_ble_eq_true rfl) rfl (Nat.le_of_ble_eq_true rfl) dModel_rankHere_16 rfl (by decide) H (fun v τ p6 => ?_)
    obtain ⟨r7, I8, L9, rfl, rfl, H⟩ := p6
    refine ev_if_eq 24 dModel_rankHere_19 (by decide) (fun c10 => ?_) (fun c10 => ?_)
    · have H := H.1 c10
      refine ev_aload_n dModel_rankHere_24 rfl ?_
      refine ev_bipush (60) dModel_rankHere_25 (by decide) ?_
      refine ev_callV [.int 60] [] (B' := (0, 0)) (B'' := (0, 0)) hok mmModel_is mk_Model_193 (ci := 12) rfl rfl (woModel hw) rfl (Nat.le_of_ble_eq_true rfl) rfl (Nat.le_of_ble_eq_true rfl) dModel_rankHere_27 rfl (by decide) H (fun v τ p11 => ?_)
      obtain ⟨r12, I13, L14, rfl, rfl, H⟩ := p11
      refine ev_if_ne 51 dModel_rankHere_30 (by decide) (fun c15 => ?_) (fun c15 => ?_)
      · have H := H.1 c15
        refine ev_iconst (4) dModel_rankHere_51 (by decide) ?_
        exact ev_iret rfl dModel_rankHere_52 H
      · have H := H.2 c15
        refine ev_aload_n dModel_rankHere_33 rfl ?_
        refine ev_bipush (62) dModel_rankHere_34 (by decide) ?_
        refine ev_callV [.int 62] [] (B' := (0, 0)) (B'' := (0, 0)) hok mmModel_is mk_Model_193 (ci := 12) rfl rfl (woModel hw) rfl (Nat.le_of_ble_eq_true rfl) rfl (Nat.le_of_ble_eq_true rfl) dModel_rankHere_36 rfl (by decide) H (fun v τ p16 => ?_)
        obtain ⟨r17, I18, L19, rfl, rfl, H⟩ := p16
        refine ev_if_ne 51 dModel_rankHere_39 (by decide) (fun c20 => ?_) (fun c20 => ?_)
        · have H := H.1 c20
          refine ev_iconst (4) dModel_rankHere_51 (by decide) ?_
          exact ev_iret rfl dModel_rankHere_52 H
        · have H := H.2 c20
          refine ev_aload_n dModel_rankHere_42 rfl ?_
          refine ev_bipush (61) dModel_rankHere_43 (by decide) ?_
          refine ev_callV [.int 61] [] (B' := (0, 0)) (B'' := (0, 0)) hok mmModel_is mk_Model_193 (ci := 12) rfl rfl (woModel hw) rfl (Nat.le_of_ble_eq_true rfl) rfl (Nat.le_of_ble_eq_true rfl) dModel_rankHere_45 rfl (by decide) H (fun v τ p21 => ?_)
          obtain ⟨r22, I23, L24, rfl, rfl, H⟩ := p21
          refine ev_if_eq 53 dModel_rankHere_48 (by decide) (fun c25 => ?_) (fun c25 => ?_)
          · have H := H.1 c25
            refine ev_aload_n dModel_rankHere_53 rfl ?_
            refine ev_bipush (43) dModel_rankHere_54 (by decide) ?_
            refine ev_callV [.int 43] [] (B' := (0, 0)) (B'' := (0, 0)) hok mmModel_is mk_Model_193 (ci := 12) rfl rfl (woModel hw) rfl (Nat.le_of_ble_eq_true rfl) rfl (Nat.le_of_ble_eq_true rfl) dModel_rankHere_56 rfl (by decide) H (fun v τ p26 => ?_)
            obtain ⟨r27, I28, L29, rfl, rfl, H⟩ := p26
            refine ev_if_ne 71 dModel_rankHere_59 (by decide) (fun c30 => ?_) (fun c30 => ?_)
            · have H := H.1 c30
              refine ev_iconst (5) dModel_rankHere_71 (by decide) ?_
              exact ev_iret rfl dModel_rankHere_72 H
            · have H := H.2 c30
              refine ev_aload_n dModel_rankHere_62 rfl ?_
              refine ev_bipush (45) dModel_rankHere_63 (by decide) ?_
              refine ev_callV [.int 45] [] (B' := (0, 0)) (B'' := (0, 0)) hok mmModel_is mk_Model_193 (ci := 12) rfl rfl (woModel hw) rfl (Nat.le_of_ble_eq_true rfl) rfl (Nat.le_of_ble_eq_true rfl) dModel_rankHere_65 rfl (by decide) H (fun v τ p31 => ?_)
              obtain ⟨r32, I33, L34, rfl, rfl, H⟩ := p31
              refine ev_if_eq 73 dModel_rankHere_68 (by decide) (fun c35 => ?_) (fun c35 => ?_)
              · have H := H.1 c35
                refine ev_aload_n dModel_rankHere_73 rfl ?_
                refine ev_bipush (42) dModel_rankHere_74 (by decide) ?_
                refine ev_callV [.int 42] [] (B' := (0, 0)) (B'' := (0, 0)) hok mmModel_is mk_Model_193 (ci := 12) rfl rfl (woModel hw) rfl (Nat.le_of_ble_eq_true rfl) rfl (Nat.le_of_ble_eq_true rfl) dModel_rankHere_76 rfl (by decide) H (fun v τ p36 => ?_)
                obtain ⟨r37, I38, L39, rfl, rfl, H⟩ := p36
                refine ev_if_ne 91 dModel_rankHere_79 (by decide) (fun c40 => ?_) (fun c40 => ?_)
                · have H := H.1 c40
                  exact ev_sub [(0, .ref o)] rfl (sModel_rankHere_91 o n sh Rf I38 L39 post  hok hw H)
                · have H := H.2 c40
                  refine ev_aload_n dModel_rankHere_82 rfl ?_
                  refine ev_bipush (47) dModel_rankHere_83 (by decide) ?_
                  refine ev_callV [.int 47] [] (B' := (0, 0)) (B'' := (0, 0)) hok mmModel_is mk_Model_193 (ci := 12) rfl rfl (woModel hw) rfl (Nat.le_of_ble_eq_true rfl) rfl (Nat.le_of_ble_eq_true rfl) dModel_rankHere_85 rfl (by decide) H (fun v τ p41 => ?_)
                  obtain ⟨r42, I43, L44, rfl, rfl, H⟩ := p41
                  refine ev_if_eq 96 dModel_rankHere_88 (by decide) (fun c45 => ?_) (fun c45 => ?_)
                  · have H := H.1 c45
                    refine ev_iconst (0) dModel_rankHere_96 (by decide) ?_
                    exact ev_iret rfl dModel_rankHere_97 H
                  · have H := H.2 c45
                    exact ev_sub [(0, .ref o)] rfl (sModel_rankHere_91 o n sh Rf I43 L44 post  hok hw H)
              · have H := H.2 c35
                refine ev_iconst (5) dModel_rankHere_71 (by decide) ?_
                exact ev_iret rfl dModel_rankHere_72 H
          · have H := H.2 c25
            refine ev_iconst (4) dModel_rankHere_51 (by decide) ?_
            exact ev_iret rfl dModel_rankHere_52 H
    · have H := H.2 c10
      refine ev_iconst (1) dModel_rankHere_22 (by decide) ?_
      exact ev_iret rfl dModel_rankHere_23 H
  · have H := H.2 c5
    refine ev_iconst (2) dModel_rankHere_10 (by decide) ?_
    exact ev_iret rfl dModel_rankHere_11 H
def fModel_smuggle_142 (D : va_G) (cA : FieldType → ClassId) (b : Nat) (E : State → Prop) (o : Nat) (n : Nat) (sh : Nat → qC) (Rf : Nat → Nat → Option Nat) (I : Nat → Nat → Int32) (L : Nat → Nat → Int64) (post : Option Value → qS → Prop) (x1 : Int32) (x2 : Int32) (x3 : Int32) : Prop :=
  Ev (qGG D cA b E) mModel_smuggle 2 (0, 0) 37 [(0, .ref o), (1, .int x1), (2, .int ((x2 + Int32.ofInt 1)))] [] (n, sh, Rf, I, L) post
set_option maxHeartbeats 4000000 in
set_option maxRecDepth 20000 in
theorem sModel_smuggle_142 {D : va_G} {cA : FieldType → ClassId} {b : Nat} {E : State → Prop} (o : Nat) (n : Nat) (sh : Nat → qC) (Rf : Nat → Nat → Option Nat) (I : Nat → Nat → Int32) (L : Nat → Nat → Int64) (post : Option Value → qS → Prop) (x1 : Int32) (x2 : Int32) (x3 : Int32) (hok : q_ok (qGG D cA b E)) (hw : WfModel (qGG D cA b E) n sh Rf o) (H : fModel_smuggle_142 D cA b E o n sh Rf I L post x1 x2 x3) : Ev (qGG D cA b E) mModel_smuggle 2 (0, 0) 142 [(0, .ref o), (1, .int x1), (2, .int x2), (3, .int x3)] [] (n, sh, Rf, I, L) post := by
  unfold fModel_smuggle_142 at H
  refine ev_iinc dModel_smuggle_142 rfl (by decide) ?_
  refine ev_goto 37 dModel_smuggle_145 (by decide) ?_
  exact ev_sub [(0, .ref o), (1, .int x1), (2, .int ((x2 + Int32.ofInt 1)))] rfl H
def fModel_smuggle_129 (D : va_G) (cA : FieldType → ClassId) (b : Nat) (E : State → Prop) (o : Nat) (n : Nat) (sh : Nat → qC) (Rf : Nat → Nat → Option Nat) (I : Nat → Nat → Int32) (L : Nat → Nat → Int64) (post : Option Value → qS → Prop) (x1 : Int32) (x2 : Int32) (x3 : Int32) (x4 : Int32) : Prop :=
  (((-x4) ≤ x3 → fModel_smuggle_142 D cA b E o n sh Rf I L post x1 x2 x3) ∧ (¬ (-x4) ≤ x3 → Ev (qGG D cA b E) mModel_cross 1 (0, 0) 0 (lv_args 0 [.ref o, .int x2, .int x1]) [] (n, sh, Rf, I, L) (fun v τ => ∃ (I4 : Nat → Nat → Int32) (L5 : Nat → Nat → Int64), v = none ∧ τ = (n, sh, Rf, I4, L5) ∧ fModel_smuggle_142 D cA b E o n sh Rf I4 L5 post x1 x2 x3)))
set_option maxHeartbeats 4000000 in
set_option maxRecDepth 20000 in
theorem sModel_smuggle_129 {D : va_G} {cA : FieldType → ClassId} {b : Nat} {E : State → Prop} (o : Nat) (n : Nat) (sh : Nat → qC) (Rf : Nat → Nat → Option Nat) (I : Nat → Nat → Int32) (L : Nat → Nat → Int64) (post : Option Value → qS → Prop) (x1 : Int32) (x2 : Int32) (x3 : Int32) (x4 : Int32) (hok : q_ok (qGG D cA b E)) (hw : WfModel (qGG D cA b E) n sh Rf o) (H : fModel_smuggle_129 D cA b E o n sh Rf I L post x1 x2 x3 x4) : Ev (qGG D cA b E) mModel_smuggle 2 (0, 0) 129 [(0, .ref o), (1, .int x1), (2, .int x2), (3, .int x3), (4, .int x4)] [] (n, sh, Rf, I, L) post := by
  unfold fModel_smuggle_129 at H
  refine ev_iload dModel_smuggle_129 rfl ?_
  refine ev_ineg dModel_smuggle_131 ?_
  refine ev_iload_n dModel_smuggle_132 rfl ?_
  refine ev_icmp_le 142 dModel_smuggle_133 (by decide) (fun c1 => ?_) (fun c1 => ?_)
  · have H := H.1 c1
    exact ev_sub [(0, .ref o), (1, .int x1), (2, .int x2), (3, .int x3)] rfl (sModel_smuggle_142 o n sh Rf I L post x1 x2 x3 hok hw H)
  · have H := H.2 c1
    refine ev_aload_n dModel_smuggle_136 rfl ?_
    refine ev_iload_n dModel_smuggle_137 rfl ?_
    refine ev_iload_n dModel_smuggle_138 rfl ?_
    refine ev_callV [.int x2, .int x1] [] (B' := (0, 0)) (B'' := (0, 0)) hok mmModel_cross mk_Model_697 (ci := 12) rfl rfl (woModel hw) rfl (Nat.le_of_ble_eq_true rfl) rfl (Nat.le_of_ble_eq_true rfl) dModel_smuggle_139 rfl (by decide) H (fun v τ p2 => ?_)
    obtain ⟨I4, L5, rfl, rfl, H⟩ := p2
    exact ev_sub [(0, .ref o), (1, .int x1), (2, .int x2), (3, .int x3)] rfl (sModel_smuggle_142 o n sh Rf I4 L5 post x1 x2 x3 hok hw H)
def fModel_smuggle_37 (D : va_G) (cA : FieldType → ClassId) (b : Nat) (E : State → Prop) (o : Nat) (n : Nat) (sh : Nat → qC) (Rf : Nat → Nat → Option Nat) (I : Nat → Nat → Int32) (L : Nat → Nat → Int64) (post : Option Value → qS → Prop) (x1 : Int32) (x2 : Int32) : Prop :=
  Ev (qGG D cA b E) mModel_towns 0 (0, 0) 0 (lv_args 0 [.ref o]) [] (n, sh, Rf, I, L) (fun v τ => ∃ (r2 : Int32) (I3 : Nat → Nat → Int32) (L4 : Nat → Nat → Int64), v = some (.int r2) ∧ τ = (n, sh, Rf, I3, L4) ∧ ((r2 ≤ x2 → Ev (qGG D cA b E) mModel_smuggle 2 (0, 0) 25 [(0, .ref o), (1, .int ((x1 + Int32.ofInt 1)))] [] (n, sh, Rf, I3, L4) post) ∧ (¬ r2 ≤ x2 → Ev (qGG D cA b E) mModel_townAt 0 (0, 0) 0 (lv_args 0 [.ref o, .int x1]) [] (n, sh, Rf, I3, L4) (fun v τ => ∃ (r7 : Int32) (I8 : Nat → Nat → Int32) (L9 : Nat → Nat → Int64), v = some (.int r7) ∧ τ = (n, sh, Rf, I8, L9) ∧ Ev (qGG D cA b E) mModel_townAt 0 (0, 0) 0 (lv_args 0 [.ref o, .int x2]) [] (n, sh, Rf, I8, L9) (fun v τ => ∃ (r11 : Int32) (I12 : Nat → Nat → Int32) (L13 : Nat → Nat → Int64), v = some (.int r11) ∧ τ = (n, sh, Rf, I12, L13) ∧ vp_in ((16 * r7) + r11) 256 ∧ vp_in ((5 * (I12 o 34)) + x1) 10 ∧ vp_in ((5 * (I12 o 34)) + x2) 10 ∧ (((I12 (o + 20) (((5 * (I12 o 34)) + x1) : Int32).toNatClampNeg) = (I12 (o + 20) (((5 * (I12 o 34)) + x2) : Int32).toNatClampNeg) → fModel_smuggle_142 D cA b E o n sh Rf I12 L13 post x1 x2 (I12 (o + 25) (((16 * r7) + r11) : Int32).toNatClampNeg)) ∧ (¬ (I12 (o + 20) (((5 * (I12 o 34)) + x1) : Int32).toNatClampNeg) = (I12 (o + 20) (((5 * (I12 o 34)) + x2) : Int32).toNatClampNeg) → (((I12 (o + 25) (((16 * r7) + r11) : Int32).toNatClampNeg) < 1000000 → Ev (qGG D cA b E) mModel_priceOf 0 (0, 0) 0 (lv_args 0 [.ref o, .int x2]) [] (n, sh, Rf, I12, L13) (fun v τ => ∃ (r20 : Int32) (I21 : Nat → Nat → Int32) (L22 : Nat → Nat → Int64), v = some (.int r20) ∧ τ = (n, sh, Rf, I21, L22) ∧ Ev (qGG D cA b E) mModel_priceOf 0 (0, 0) 0 (lv_args 0 [.ref o, .int x1]) [] (n, sh, Rf, I21, L22) (fun v τ => ∃ (r24 : Int32) (I25 : Nat → Nat → Int32) (L26 : Nat → Nat → Int64), v = some (.int r24) ∧ τ = (n, sh, Rf, I25, L26) ∧ (((r20 - r24) ≤ (I12 (o + 25) (((16 * r7) + r11) : Int32).toNatClampNeg) → fModel_smuggle_129 D cA b E o n sh Rf I25 L26 post x1 x2 (I12 (o + 25) (((16 * r7) + r11) : Int32).toNatClampNeg) (r20 - r24)) ∧ (¬ (r20 - r24) ≤ (I12 (o + 25) (((16 * r7) + r11) : Int32).toNatClampNeg) → Ev (qGG D cA b E) mModel_cross 1 (0, 0) 0 (lv_args 0 [.ref o, .int x1, .int x2]) [] (n, sh, Rf, I25, L26) (fun v τ => ∃ (I30 : Nat → Nat → Int32) (L31 : Nat → Nat → Int64), v = none ∧ τ = (n, sh, Rf, I30, L31) ∧ fModel_smuggle_129 D cA b E o n sh Rf I30 L31 post x1 x2 (I12 (o + 25) (((16 * r7) + r11) : Int32).toNatClampNeg) (r20 - r24))))))) ∧ (¬ (I12 (o + 25) (((16 * r7) + r11) : Int32).toNatClampNeg) < 1000000 → fModel_smuggle_142 D cA b E o n sh Rf I12 L13 post x1 x2 (I12 (o + 25) (((16 * r7) + r11) : Int32).toNatClampNeg))))))))))
set_option maxHeartbeats 4000000 in
set_option maxRecDepth 20000 in
theorem sModel_smuggle_37 {D : va_G} {cA : FieldType → ClassId} {b : Nat} {E : State → Prop} (o : Nat) (n : Nat) (sh : Nat → qC) (Rf : Nat → Nat → Option Nat) (I : Nat → Nat → Int32) (L : Nat → Nat → Int64) (post : Option Value → qS → Prop) (x1 : Int32) (x2 : Int32) (hok : q_ok (qGG D cA b E)) (hw : WfModel (qGG D cA b E) n sh Rf o) (H : fModel_smuggle_37 D cA b E o n sh Rf I L post x1 x2) : Ev (qGG D cA b E) mModel_smuggle 2 (0, 0) 37 [(0, .ref o), (1, .int x1), (2, .int x2)] [] (n, sh, Rf, I, L) post := by
  unfold fModel_smuggle_37 at H
  refine ev_iload_n dModel_smuggle_37 rfl ?_
  refine ev_aload_n dModel_smuggle_38 rfl ?_
  refine ev_callV [] [.int x2] (B' := (0, 0)) (B'' := (0, 0)) hok mmModel_towns mk_Model_488 (ci := 12) rfl rfl (woModel hw) rfl (Nat.le_of_ble_eq_true rfl) rfl (Nat.le_of_ble_eq_true rfl) dModel_smuggle_39 rfl (by decide) H (fun v τ p1 => ?_)
  obtain ⟨r2, I3, L4, rfl, rfl, H⟩ := p1
  refine ev_icmp_ge 148 dModel_smuggle_42 (by decide) (fun c5 => ?_) (fun c5 => ?_)
  · have H := H.1 c5
    refine ev_iinc dModel_smuggle_148 rfl (by decide) ?_
    refine ev_goto 25 dModel_smuggle_151 (by decide) ?_
    exact ev_sub [(0, .ref o), (1, .int ((x1 + Int32.ofInt 1)))] rfl H
  · have H := H.2 c5
    refine ev_aload_n dModel_smuggle_45 rfl ?_
    refine ev_getR hok fk_Model_269 (woModel hw) (fun _ _ _ => rfl) (wrModel_36 hw) dModel_smuggle_46 ?_
    refine ev_bipush (16) dModel_smuggle_49 (by decide) ?_
    refine ev_aload_n dModel_smuggle_51 rfl ?_
    refine ev_iload_n dModel_smuggle_52 rfl ?_
    refine ev_callV [.int x1] [.int 16, .ref ((o + 25))] (B' := (0, 0)) (B'' := (0, 0)) hok mmModel_townAt mk_Model_494 (ci := 12) rfl rfl (woModel hw) rfl (Nat.le_of_ble_eq_true rfl) rfl (Nat.le_of_ble_eq_true rfl) dModel_smuggle_53 rfl (by decide) H (fun v τ p6 => ?_)
    obtain ⟨r7, I8, L9, rfl, rfl, H⟩ := p6
    refine ev_imul dModel_smuggle_56 ?_
    refine ev_aload_n dModel_smuggle_57 rfl ?_
    refine ev_iload_n dModel_smuggle_58 rfl ?_
    refine ev_callV [.int x2] [.int ((16 * r7)), .ref ((o + 25))] (B' := (0, 0)) (B'' := (0, 0)) hok mmModel_townAt mk_Model_494 (ci := 12) rfl rfl (woModel hw) rfl (Nat.le_of_ble_eq_true rfl) rfl (Nat.le_of_ble_eq_true rfl) dModel_smuggle_59 rfl (by decide) H (fun v τ p10 => ?_)
    obtain ⟨r11, I12, L13, rfl, rfl, H⟩ := p10
    refine ev_iadd dModel_smuggle_62 ?_
    obtain ⟨h14, H⟩ := H
    refine ev_iald hok (waModel_36 hw) h14 dModel_smuggle_63 ?_
    refine ev_istore_n dModel_smuggle_64 (by decide) ?_
    refine ev_aload_n dModel_smuggle_65 rfl ?_
    refine ev_getR hok fk_Model_254 (woModel hw) (fun _ _ _ => rfl) (wrModel_29 hw) dModel_smuggle_66 ?_
    refine ev_iconst (5) dModel_smuggle_69 (by decide) ?_
    refine ev_aload_n dModel_smuggle_70 rfl ?_
    refine ev_getI hok fk_Model_147 (woModel hw) (fun _ _ _ => rfl) dModel_smuggle_71 ?_
    refine ev_imul dModel_smuggle_74 ?_
    refine ev_iload_n dModel_smuggle_75 rfl ?_
    refine ev_iadd dModel_smuggle_76 ?_
    obtain ⟨h15, H⟩ := H
    refine ev_iald hok (waModel_29 hw) h15 dModel_smuggle_77 ?_
    refine ev_aload_n dModel_smuggle_78 rfl ?_
    refine ev_getR hok fk_Model_254 (woModel hw) (fun _ _ _ => rfl) (wrModel_29 hw) dModel_smuggle_79 ?_
    refine ev_iconst (5) dModel_smuggle_82 (by decide) ?_
    refine ev_aload_n dModel_smuggle_83 rfl ?_
    refine ev_getI hok fk_Model_147 (woModel hw) (fun _ _ _ => rfl) dModel_smuggle_84 ?_
    refine ev_imul dModel_smuggle_87 ?_
    refine ev_iload_n dModel_smuggle_88 rfl ?_
    refine ev_iadd dModel_smuggle_89 ?_
    obtain ⟨h16, H⟩ := H
    refine ev_iald hok (waModel_29 hw) h16 dModel_smuggle_90 ?_
    refine ev_icmp_eq 142 dModel_smuggle_91 (by decide) (fun c17 => ?_) (fun c17 => ?_)
    · have H := H.1 c17
      exact ev_sub [(0, .ref o), (1, .int x1), (2, .int x2), (3, .int ((I12 (o + 25) (((16 * r7) + r11) : Int32).toNatClampNeg)))] rfl (sModel_smuggle_142 o n sh Rf I12 L13 post x1 x2 (I12 (o + 25) (((16 * r7) + r11) : Int32).toNatClampNeg) hok hw H)
    · have H := H.2 c17
      refine ev_iload_n dModel_smuggle_94 rfl ?_
      refine ev_ldcw (1000000) dModel_smuggle_95 (q_t7 91 (by decide +kernel) rfl) ?_
      refine ev_icmp_lt 104 dModel_smuggle_98 (by decide) (fun c18 => ?_) (fun c18 => ?_)
      · have H := H.1 c18
        refine ev_aload_n dModel_smuggle_104 rfl ?_
        refine ev_iload_n dModel_smuggle_105 rfl ?_
        refine ev_callV [.int x2] [] (B' := (0, 0)) (B'' := (0, 0)) hok mmModel_priceOf mk_Model_497 (ci := 12) rfl rfl (woModel hw) rfl (Nat.le_of_ble_eq_true rfl) rfl (Nat.le_of_ble_eq_true rfl) dModel_smuggle_106 rfl (by decide) H (fun v τ p19 => ?_)
        obtain ⟨r20, I21, L22, rfl, rfl, H⟩ := p19
        refine ev_aload_n dModel_smuggle_109 rfl ?_
        refine ev_iload_n dModel_smuggle_110 rfl ?_
        refine ev_callV [.int x1] [.int r20] (B' := (0, 0)) (B'' := (0, 0)) hok mmModel_priceOf mk_Model_497 (ci := 12) rfl rfl (woModel hw) rfl (Nat.le_of_ble_eq_true rfl) rfl (Nat.le_of_ble_eq_true rfl) dModel_smuggle_111 rfl (by decide) H (fun v τ p23 => ?_)
        obtain ⟨r24, I25, L26, rfl, rfl, H⟩ := p23
        refine ev_isub dModel_smuggle_114 ?_
        refine ev_istore dModel_smuggle_115 (by decide) ?_
        refine ev_iload dModel_smuggle_117 rfl ?_
        refine ev_iload_n dModel_smuggle_119 rfl ?_
        refine ev_icmp_le 129 dModel_smuggle_120 (by decide) (fun c27 => ?_) (fun c27 => ?_)
        · have H := H.1 c27
          exact ev_sub [(0, .ref o), (1, .int x1), (2, .int x2), (3, .int ((I12 (o + 25) (((16 * r7) + r11) : Int32).toNatClampNeg))), (4, .int ((r20 - r24)))] rfl (sModel_smuggle_129 o n sh Rf I25 L26 post x1 x2 (I12 (o + 25) (((16 * r7) + r11) : Int32).toNatClampNeg) (r20 - r24) hok hw H)
        · have H := H.2 c27
          refine ev_aload_n dModel_smuggle_123 rfl ?_
          refine ev_iload_n dModel_smuggle_124 rfl ?_
          refine ev_iload_n dModel_smuggle_125 rfl ?_
          refine ev_callV [.int x1, .int x2] [] (B' := (0, 0)) (B'' := (0, 0)) hok mmModel_cross mk_Model_697 (ci := 12) rfl rfl (woModel hw) rfl (Nat.le_of_ble_eq_true rfl) rfl (Nat.le_of_ble_eq_true rfl) dModel_smuggle_126 rfl (by decide) H (fun v τ p28 => ?_)
          obtain ⟨I30, L31, rfl, rfl, H⟩ := p28
          exact ev_sub [(0, .ref o), (1, .int x1), (2, .int x2), (3, .int ((I12 (o + 25) (((16 * r7) + r11) : Int32).toNatClampNeg))), (4, .int ((r20 - r24)))] rfl (sModel_smuggle_129 o n sh Rf I30 L31 post x1 x2 (I12 (o + 25) (((16 * r7) + r11) : Int32).toNatClampNeg) (r20 - r24) hok hw H)
      · have H := H.2 c18
        refine ev_goto 142 dModel_smuggle_101 (by decide) ?_
        exact ev_sub [(0, .ref o), (1, .int x1), (2, .int x2), (3, .int ((I12 (o + 25) (((16 * r7) + r11) : Int32).toNatClampNeg)))] rfl (sModel_smuggle_142 o n sh Rf I12 L13 post x1 x2 (I12 (o + 25) (((16 * r7) + r11) : Int32).toNatClampNeg) hok hw H)
def fModel_smuggle_25 (D : va_G) (cA : FieldType → ClassId) (b : Nat) (E : State → Prop) (o : Nat) (n : Nat) (sh : Nat → qC) (Rf : Nat → Nat → Option Nat) (I : Nat → Nat → Int32) (L : Nat → Nat → Int64) (post : Option Value → qS → Prop) (x1 : Int32) : Prop :=
  Ev (qGG D cA b E) mModel_towns 0 (0, 0) 0 (lv_args 0 [.ref o]) [] (n, sh, Rf, I, L) (fun v τ => ∃ (r2 : Int32) (I3 : Nat → Nat → Int32) (L4 : Nat → Nat → Int64), v = some (.int r2) ∧ τ = (n, sh, Rf, I3, L4) ∧ ((r2 ≤ x1 → post none (n, sh, Rf, I3, L4)) ∧ (¬ r2 ≤ x1 → Ev (qGG D cA b E) mModel_smuggle 2 (0, 0) 37 [(0, .ref o), (1, .int x1), (2, .int ((x1 + 1)))] [] (n, sh, Rf, I3, L4) post)))
set_option maxHeartbeats 4000000 in
set_option maxRecDepth 20000 in
theorem sModel_smuggle_25 {D : va_G} {cA : FieldType → ClassId} {b : Nat} {E : State → Prop} (o : Nat) (n : Nat) (sh : Nat → qC) (Rf : Nat → Nat → Option Nat) (I : Nat → Nat → Int32) (L : Nat → Nat → Int64) (post : Option Value → qS → Prop) (x1 : Int32) (hok : q_ok (qGG D cA b E)) (hw : WfModel (qGG D cA b E) n sh Rf o) (H : fModel_smuggle_25 D cA b E o n sh Rf I L post x1) : Ev (qGG D cA b E) mModel_smuggle 2 (0, 0) 25 [(0, .ref o), (1, .int x1)] [] (n, sh, Rf, I, L) post := by
  unfold fModel_smuggle_25 at H
  refine ev_iload_n dModel_smuggle_25 rfl ?_
  refine ev_aload_n dModel_smuggle_26 rfl ?_
  refine ev_callV [] [.int x1] (B' := (0, 0)) (B'' := (0, 0)) hok mmModel_towns mk_Model_488 (ci := 12) rfl rfl (woModel hw) rfl (Nat.le_of_ble_eq_true rfl) rfl (Nat.le_of_ble_eq_true rfl) dModel_smuggle_27 rfl (by decide) H (fun v τ p1 => ?_)
  obtain ⟨r2, I3, L4, rfl, rfl, H⟩ := p1
  refine ev_icmp_ge 154 dModel_smuggle_30 (by decide) (fun c5 => ?_) (fun c5 => ?_)
  · have H := H.1 c5
    exact ev_vret rfl dModel_smuggle_154 H
  · have H := H.2 c5
    refine ev_iload_n dModel_smuggle_33 rfl ?_
    refine ev_iconst (1) dModel_smuggle_34 (by decide) ?_
    refine ev_iadd dModel_smuggle_35 ?_
    refine ev_istore_n dModel_smuggle_36 (by decide) ?_
    exact ev_sub [(0, .ref o), (1, .int x1), (2, .int ((x1 + 1)))] rfl H
def fModel_smuggle_2 (D : va_G) (cA : FieldType → ClassId) (b : Nat) (E : State → Prop) (o : Nat) (n : Nat) (sh : Nat → qC) (Rf : Nat → Nat → Option Nat) (I : Nat → Nat → Int32) (L : Nat → Nat → Int64) (post : Option Value → qS → Prop) (x1 : Int32) : Prop :=
  Ev (qGG D cA b E) mModel_towns 0 (0, 0) 0 (lv_args 0 [.ref o]) [] (n, sh, Rf, I, L) (fun v τ => ∃ (r2 : Int32) (I3 : Nat → Nat → Int32) (L4 : Nat → Nat → Int64), v = some (.int r2) ∧ τ = (n, sh, Rf, I3, L4) ∧ ((r2 ≤ x1 → Ev (qGG D cA b E) mModel_smuggle 2 (0, 0) 25 [(0, .ref o), (1, .int 0)] [] (n, sh, Rf, I3, L4) post) ∧ (¬ r2 ≤ x1 → vp_in x1 5 ∧ ∀ I6 : Nat → Nat → Int32, q_u I3 (o + 47) (x1 : Int32).toNatClampNeg 0 = I6 → Ev (qGG D cA b E) mModel_smuggle 2 (0, 0) 2 [(0, .ref o), (1, .int ((x1 + Int32.ofInt 1)))] [] (n, sh, Rf, I6, L4) post)))
set_option maxHeartbeats 4000000 in
set_option maxRecDepth 20000 in
theorem sModel_smuggle_2 {D : va_G} {cA : FieldType → ClassId} {b : Nat} {E : State → Prop} (o : Nat) (n : Nat) (sh : Nat → qC) (Rf : Nat → Nat → Option Nat) (I : Nat → Nat → Int32) (L : Nat → Nat → Int64) (post : Option Value → qS → Prop) (x1 : Int32) (hok : q_ok (qGG D cA b E)) (hw : WfModel (qGG D cA b E) n sh Rf o) (H : fModel_smuggle_2 D cA b E o n sh Rf I L post x1) : Ev (qGG D cA b E) mModel_smuggle 2 (0, 0) 2 [(0, .ref o), (1, .int x1)] [] (n, sh, Rf, I, L) post := by
  unfold fModel_smuggle_2 at H
  refine ev_iload_n dModel_smuggle_2 rfl ?_
  refine ev_aload_n dModel_smuggle_3 rfl ?_
  refine ev_callV [] [.int x1] (B' := (0, 0)) (B'' := (0, 0)) hok mmModel_towns mk_Model_488 (ci := 12) rfl rfl (woModel hw) rfl (Nat.le_of_ble_eq_true rfl) rfl (Nat.le_of_ble_eq_true rfl) dModel_smuggle_4 rfl (by decide) H (fun v τ p1 => ?_)
  obtain ⟨r2, I3, L4, rfl, rfl, H⟩ := p1
  refine ev_icmp_ge 23 dModel_smuggle_7 (by decide) (fun c5 => ?_) (fun c5 => ?_)
  · have H := H.1 c5
    refine ev_iconst (0) dModel_smuggle_23 (by decide) ?_
    refine ev_istore_n dModel_smuggle_24 (by decide) ?_
    exact ev_sub [(0, .ref o), (1, .int 0)] rfl H
  · have H := H.2 c5
    refine ev_aload_n dModel_smuggle_10 rfl ?_
    refine ev_getR hok fk_Model_694 (woModel hw) (fun _ _ _ => rfl) (wrModel_80 hw) dModel_smuggle_11 ?_
    refine ev_iload_n dModel_smuggle_14 rfl ?_
    refine ev_iconst (0) dModel_smuggle_15 (by decide) ?_
    obtain ⟨h7, H⟩ := H
    refine ev_iast hok (waModel_80 hw) h7 dModel_smuggle_16 ?_
    generalize eI6 : q_u I3 (o + 47) (x1 : Int32).toNatClampNeg 0 = I6
    have H := H I6 eI6
    refine ev_iinc dModel_smuggle_17 rfl (by decide) ?_
    refine ev_goto 2 dModel_smuggle_20 (by decide) ?_
    exact ev_sub [(0, .ref o), (1, .int ((x1 + Int32.ofInt 1)))] rfl H
def fModel_smuggle_0 (D : va_G) (cA : FieldType → ClassId) (b : Nat) (E : State → Prop) (o : Nat) (n : Nat) (sh : Nat → qC) (Rf : Nat → Nat → Option Nat) (I : Nat → Nat → Int32) (L : Nat → Nat → Int64) (post : Option Value → qS → Prop)  : Prop :=
  Ev (qGG D cA b E) mModel_smuggle 2 (0, 0) 2 [(0, .ref o), (1, .int 0)] [] (n, sh, Rf, I, L) post
set_option maxHeartbeats 4000000 in
set_option maxRecDepth 20000 in
theorem sModel_smuggle_0 {D : va_G} {cA : FieldType → ClassId} {b : Nat} {E : State → Prop} (o : Nat) (n : Nat) (sh : Nat → qC) (Rf : Nat → Nat → Option Nat) (I : Nat → Nat → Int32) (L : Nat → Nat → Int64) (post : Option Value → qS → Prop)  (hok : q_ok (qGG D cA b E)) (hw : WfModel (qGG D cA b E) n sh Rf o) (H : fModel_smuggle_0 D cA b E o n sh Rf I L post ) : Ev (qGG D cA b E) mModel_smuggle 2 (0, 0) 0 [(0, .ref o)] [] (n, sh, Rf, I, L) post := by
  unfold fModel_smuggle_0 at H
  refine ev_iconst (0) dModel_smuggle_0 (by decide) ?_
  refine ev_istore_n dModel_smuggle_1 (by decide) ?_
  exact ev_sub [(0, .ref o), (1, .int 0)] rfl H
def fModel_waitingAll_4 (D : va_G) (cA : FieldType → ClassId) (b : Nat) (E : State → Prop) (o : Nat) (n : Nat) (sh : Nat → qC) (Rf : Nat → Nat → Option Nat) (I : Nat → Nat → Int32) (L : Nat → Nat → Int64) (post : Option Value → qS → Prop) (x1 : Int32) (x2 : Int32) : Prop :=
  Ev (qGG D cA b E) mModel_pans 0 (0, 0) 0 (lv_args 0 [.ref o]) [] (n, sh, Rf, I, L) (fun v τ => ∃ (r2 : Int32) (I3 : Nat → Nat → Int32) (L4 : Nat → Nat → Int64), v = some (.int r2) ∧ τ = (n, sh, Rf, I3, L4) ∧ ((r2 ≤ x2 → post (some (.int x1)) (n, sh, Rf, I3, L4)) ∧ (¬ r2 ≤ x2 → Ev (qGG D cA b E) mModel_waitingAt 1 (0, 0) 0 (lv_args 0 [.ref o, .int x2]) [] (n, sh, Rf, I3, L4) (fun v τ => ∃ (r7 : Int32) (I8 : Nat → Nat → Int32) (L9 : Nat → Nat → Int64), v = some (.int r7) ∧ τ = (n, sh, Rf, I8, L9) ∧ Ev (qGG D cA b E) mModel_waitingAll 2 (0, 0) 4 [(0, .ref o), (1, .int ((x1 + r7))), (2, .int ((x2 + Int32.ofInt 1)))] [] (n, sh, Rf, I8, L9) post))))
set_option maxHeartbeats 4000000 in
set_option maxRecDepth 20000 in
theorem sModel_waitingAll_4 {D : va_G} {cA : FieldType → ClassId} {b : Nat} {E : State → Prop} (o : Nat) (n : Nat) (sh : Nat → qC) (Rf : Nat → Nat → Option Nat) (I : Nat → Nat → Int32) (L : Nat → Nat → Int64) (post : Option Value → qS → Prop) (x1 : Int32) (x2 : Int32) (hok : q_ok (qGG D cA b E)) (hw : WfModel (qGG D cA b E) n sh Rf o) (H : fModel_waitingAll_4 D cA b E o n sh Rf I L post x1 x2) : Ev (qGG D cA b E) mModel_waitingAll 2 (0, 0) 4 [(0, .ref o), (1, .int x1), (2, .int x2)] [] (n, sh, Rf, I, L) post := by
  unfold fModel_waitingAll_4 at H
  refine ev_iload_n dModel_waitingAll_4 rfl ?_
  refine ev_aload_n dModel_waitingAll_5 rfl ?_
  refine ev_callV [] [.int x2] (B' := (0, 0)) (B'' := (0, 0)) hok mmModel_pans mk_Model_433 (ci := 12) rfl rfl (woModel hw) rfl (Nat.le_of_ble_eq_true rfl) rfl (Nat.le_of_ble_eq_true rfl) dModel_waitingAll_6 rfl (by decide) H (fun v τ p1 => ?_)
  obtain ⟨r2, I3, L4, rfl, rfl, H⟩ := p1
  refine ev_icmp_ge 26 dModel_waitingAll_9 (by decide) (fun c5 => ?_) (fun c5 => ?_)
  · have H := H.1 c5
    refine ev_iload_n dModel_waitingAll_26 rfl ?_
    exact ev_iret rfl dModel_waitingAll_27 H
  · have H := H.2 c5
    refine ev_iload_n dModel_waitingAll_12 rfl ?_
    refine ev_aload_n dModel_waitingAll_13 rfl ?_
    refine ev_iload_n dModel_waitingAll_14 rfl ?_
    refine ev_callV [.int x2] [.int x1] (B' := (0, 0)) (B'' := (0, 0)) hok mmModel_waitingAt mk_Model_466 (ci := 12) rfl rfl (woModel hw) rfl (Nat.le_of_ble_eq_true rfl) rfl (Nat.le_of_ble_eq_true rfl) dModel_waitingAll_15 rfl (by decide) H (fun v τ p6 => ?_)
    obtain ⟨r7, I8, L9, rfl, rfl, H⟩ := p6
    refine ev_iadd dModel_waitingAll_18 ?_
    refine ev_istore_n dModel_waitingAll_19 (by decide) ?_
    refine ev_iinc dModel_waitingAll_20 rfl (by decide) ?_
    refine ev_goto 4 dModel_waitingAll_23 (by decide) ?_
    exact ev_sub [(0, .ref o), (1, .int ((x1 + r7))), (2, .int ((x2 + Int32.ofInt 1)))] rfl H
def fModel_waitingAll_0 (D : va_G) (cA : FieldType → ClassId) (b : Nat) (E : State → Prop) (o : Nat) (n : Nat) (sh : Nat → qC) (Rf : Nat → Nat → Option Nat) (I : Nat → Nat → Int32) (L : Nat → Nat → Int64) (post : Option Value → qS → Prop)  : Prop :=
  Ev (qGG D cA b E) mModel_waitingAll 2 (0, 0) 4 [(0, .ref o), (1, .int 0), (2, .int 0)] [] (n, sh, Rf, I, L) post
set_option maxHeartbeats 4000000 in
set_option maxRecDepth 20000 in
theorem sModel_waitingAll_0 {D : va_G} {cA : FieldType → ClassId} {b : Nat} {E : State → Prop} (o : Nat) (n : Nat) (sh : Nat → qC) (Rf : Nat → Nat → Option Nat) (I : Nat → Nat → Int32) (L : Nat → Nat → Int64) (post : Option Value → qS → Prop)  (hok : q_ok (qGG D cA b E)) (hw : WfModel (qGG D cA b E) n sh Rf o) (H : fModel_waitingAll_0 D cA b E o n sh Rf I L post ) : Ev (qGG D cA b E) mModel_waitingAll 2 (0, 0) 0 [(0, .ref o)] [] (n, sh, Rf, I, L) post := by
  unfold fModel_waitingAll_0 at H
  refine ev_iconst (0) dModel_waitingAll_0 (by decide) ?_
  refine ev_istore_n dModel_waitingAll_1 (by decide) ?_
  refine ev_iconst (0) dModel_waitingAll_2 (by decide) ?_
  refine ev_istore_n dModel_waitingAll_3 (by decide) ?_
  exact ev_sub [(0, .ref o), (1, .int 0), (2, .int 0)] rfl H
def fModel_weather_0 (D : va_G) (cA : FieldType → ClassId) (b : Nat) (E : State → Prop) (o : Nat) (n : Nat) (sh : Nat → qC) (Rf : Nat → Nat → Option Nat) (I : Nat → Nat → Int32) (L : Nat → Nat → Int64) (post : Option Value → qS → Prop) (x1 : Int32) (x2 : Int32) (x3 : Int32) : Prop :=
  Ev (qGG D cA b E) mModel_pans 0 (0, 0) 0 (lv_args 0 [.ref o]) [] (n, sh, Rf, I, L) (fun v τ => ∃ (r2 : Int32) (I3 : Nat → Nat → Int32) (L4 : Nat → Nat → Int64), v = some (.int r2) ∧ τ = (n, sh, Rf, I3, L4) ∧ Ev (qGG D cA b E) mModel_isIn 0 (0, 0) 0 (lv_args 0 [.int x1, .int 0, .int ((r2 - 1))]) [] (n, sh, Rf, I3, L4) (fun v τ => ∃ (r6 : Int32) (I7 : Nat → Nat → Int32) (L8 : Nat → Nat → Int64), v = some (.int r6) ∧ τ = (n, sh, Rf, I7, L8) ∧ ((r6 = 0 → post (some (.int ((-1)))) (n, sh, Rf, I7, L8)) ∧ (¬ r6 = 0 → Ev (qGG D cA b E) mModel_isMonth 1 (0, 0) 0 (lv_args 0 [.int x2]) [] (n, sh, Rf, I7, L8) (fun v τ => ∃ (r11 : Int32) (I12 : Nat → Nat → Int32) (L13 : Nat → Nat → Int64), v = some (.int r11) ∧ τ = (n, sh, Rf, I12, L13) ∧ ((r11 = 0 → post (some (.int ((-1)))) (n, sh, Rf, I12, L13)) ∧ (¬ r11 = 0 → Ev (qGG D cA b E) mModel_isIn 0 (0, 0) 0 (lv_args 0 [.int x3, .int 0, .int 300]) [] (n, sh, Rf, I12, L13) (fun v τ => ∃ (r16 : Int32) (I17 : Nat → Nat → Int32) (L18 : Nat → Nat → Int64), v = some (.int r16) ∧ τ = (n, sh, Rf, I17, L18) ∧ ((r16 = 0 → post (some (.int ((-1)))) (n, sh, Rf, I17, L18)) ∧ (¬ r16 = 0 → Ev (qGG D cA b E) mModel_fact 0 (0, 0) 0 (lv_args 0 [.ref o, .int 0, .int x1, .int x2, .int x3]) [] (n, sh, Rf, I17, L18) (fun v τ => ∃ (r21 : Int32) (I22 : Nat → Nat → Int32) (L23 : Nat → Nat → Int64), v = some (.int r21) ∧ τ = (n, sh, Rf, I22, L23) ∧ post (some (.int r21)) (n, sh, Rf, I22, L23))))))))))))
set_option maxHeartbeats 4000000 in
set_option maxRecDepth 20000 in
theorem sModel_weather_0 {D : va_G} {cA : FieldType → ClassId} {b : Nat} {E : State → Prop} (o : Nat) (n : Nat) (sh : Nat → qC) (Rf : Nat → Nat → Option Nat) (I : Nat → Nat → Int32) (L : Nat → Nat → Int64) (post : Option Value → qS → Prop) (x1 : Int32) (x2 : Int32) (x3 : Int32) (hok : q_ok (qGG D cA b E)) (hw : WfModel (qGG D cA b E) n sh Rf o) (H : fModel_weather_0 D cA b E o n sh Rf I L post x1 x2 x3) : Ev (qGG D cA b E) mModel_weather 2 (0, 0) 0 [(0, .ref o), (1, .int x1), (2, .int x2), (3, .int x3)] [] (n, sh, Rf, I, L) post := by
  unfold fModel_weather_0 at H
  refine ev_iload_n dModel_weather_0 rfl ?_
  refine ev_iconst (0) dModel_weather_1 (by decide) ?_
  refine ev_aload_n dModel_weather_2 rfl ?_
  refine ev_callV [] [.int 0, .int x1] (B' := (0, 0)) (B'' := (0, 0)) hok mmModel_pans mk_Model_433 (ci := 12) rfl rfl (woModel hw) rfl (Nat.le_of_ble_eq_true rfl) rfl (Nat.le_of_ble_eq_true rfl) dModel_weather_3 rfl (by decide) H (fun v τ p1 => ?_)
  obtain ⟨r2, I3, L4, rfl, rfl, H⟩ := p1
  refine ev_iconst (1) dModel_weather_6 (by decide) ?_
  refine ev_isub dModel_weather_7 ?_
  refine ev_callS [.int x1, .int 0, .int ((r2 - 1))] [] (B' := (0, 0)) (B'' := (0, 0)) hok mmModel_isIn mk_Model_393 rfl (Nat.le_of_ble_eq_true rfl) rfl (Nat.le_of_ble_eq_true rfl) dModel_weather_8 rfl (by decide) H (fun v τ p5 => ?_)
  obtain ⟨r6, I7, L8, rfl, rfl, H⟩ := p5
  refine ev_if_eq 43 dModel_weather_11 (by decide) (fun c9 => ?_) (fun c9 => ?_)
  · have H := H.1 c9
    refine ev_iconst (-1) dModel_weather_43 (by decide) ?_
    exact ev_iret rfl dModel_weather_44 H
  · have H := H.2 c9
    refine ev_iload_n dModel_weather_14 rfl ?_
    refine ev_callS [.int x2] [] (B' := (0, 0)) (B'' := (0, 0)) hok mmModel_isMonth mk_Model_436 rfl (Nat.le_of_ble_eq_true rfl) rfl (Nat.le_of_ble_eq_true rfl) dModel_weather_15 rfl (by decide) H (fun v τ p10 => ?_)
    obtain ⟨r11, I12, L13, rfl, rfl, H⟩ := p10
    refine ev_if_eq 43 dModel_weather_18 (by decide) (fun c14 => ?_) (fun c14 => ?_)
    · have H := H.1 c14
      refine ev_iconst (-1) dModel_weather_43 (by decide) ?_
      exact ev_iret rfl dModel_weather_44 H
    · have H := H.2 c14
      refine ev_iload_n dModel_weather_21 rfl ?_
      refine ev_iconst (0) dModel_weather_22 (by decide) ?_
      refine ev_sipush (300) dModel_weather_23 (by decide) ?_
      refine ev_callS [.int x3, .int 0, .int 300] [] (B' := (0, 0)) (B'' := (0, 0)) hok mmModel_isIn mk_Model_393 rfl (Nat.le_of_ble_eq_true rfl) rfl (Nat.le_of_ble_eq_true rfl) dModel_weather_26 rfl (by decide) H (fun v τ p15 => ?_)
      obtain ⟨r16, I17, L18, rfl, rfl, H⟩ := p15
      refine ev_if_eq 43 dModel_weather_29 (by decide) (fun c19 => ?_) (fun c19 => ?_)
      · have H := H.1 c19
        refine ev_iconst (-1) dModel_weather_43 (by decide) ?_
        exact ev_iret rfl dModel_weather_44 H
      · have H := H.2 c19
        refine ev_aload_n dModel_weather_32 rfl ?_
        refine ev_iconst (0) dModel_weather_33 (by decide) ?_
        refine ev_iload_n dModel_weather_34 rfl ?_
        refine ev_iload_n dModel_weather_35 rfl ?_
        refine ev_iload_n dModel_weather_36 rfl ?_
        refine ev_callV [.int 0, .int x1, .int x2, .int x3] [] (B' := (0, 0)) (B'' := (0, 0)) hok mmModel_fact mk_Model_439 (ci := 12) rfl rfl (woModel hw) rfl (Nat.le_of_ble_eq_true rfl) rfl (Nat.le_of_ble_eq_true rfl) dModel_weather_37 rfl (by decide) H (fun v τ p20 => ?_)
        obtain ⟨r21, I22, L23, rfl, rfl, H⟩ := p20
        refine ev_goto 44 dModel_weather_40 (by decide) ?_
        exact ev_iret rfl dModel_weather_44 H
