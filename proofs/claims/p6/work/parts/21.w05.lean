/-! Walks of the reference: by program. -/
def fModel_newName_51 (D : va_G) (cA : FieldType → ClassId) (b : Nat) (E : State → Prop) (o : Nat) (n : Nat) (sh : Nat → qC) (Rf : Nat → Nat → Option Nat) (I : Nat → Nat → Int32) (L : Nat → Nat → Int64) (post : Option Value → qS → Prop) (x1 : Int64) (z0 : Int32) : Prop :=
  Ev (qGG D cA b E) mModel_must 3 (0, 0) 0 (lv_args 0 [.ref o, .int z0]) [] (n, sh, Rf, I, L) (fun v τ => ∃ (I3 : Nat → Nat → Int32) (L4 : Nat → Nat → Int64), v = none ∧ τ = (n, sh, Rf, I3, L4) ∧ Ev (qGG D cA b E) mModel_isWord 0 (0, 0) 0 (lv_args 0 [.ref o, .long 24948]) [] (n, sh, Rf, I3, L4) (fun v τ => ∃ (r6 : Int32) (I7 : Nat → Nat → Int32) (L8 : Nat → Nat → Int64), v = some (.int r6) ∧ τ = (n, sh, Rf, I7, L8) ∧ Ev (qGG D cA b E) mModel_must 3 (0, 0) 0 (lv_args 0 [.ref o, .int r6]) [] (n, sh, Rf, I7, L8) (fun v τ => ∃ (I11 : Nat → Nat → Int32) (L12 : Nat → Nat → Int64), v = none ∧ τ = (n, sh, Rf, I11, L12) ∧ post (some (.long x1)) (n, sh, Rf, I11, L12))))
set_option maxHeartbeats 4000000 in
set_option maxRecDepth 20000 in
theorem sModel_newName_51 {D : va_G} {cA : FieldType → ClassId} {b : Nat} {E : State → Prop} (o : Nat) (n : Nat) (sh : Nat → qC) (Rf : Nat → Nat → Option Nat) (I : Nat → Nat → Int32) (L : Nat → Nat → Int64) (post : Option Value → qS → Prop) (x1 : Int64) (z0 : Int32) (hok : q_ok (qGG D cA b E)) (hw : WfModel (qGG D cA b E) n sh Rf o) (H : fModel_newName_51 D cA b E o n sh Rf I L post x1 z0) : Ev (qGG D cA b E) mModel_newName 4 (0, 0) 51 [(0, .ref o), (1, .long x1)] [.int z0, .ref o] (n, sh, Rf, I, L) post := by
  unfold fModel_newName_51 at H
  refine ev_callV [.int z0] [] (B' := (0, 0)) (B'' := (0, 0)) hok mmModel_must mk_Model_196 (ci := 12) rfl rfl (woModel hw) rfl (Nat.le_of_ble_eq_true rfl) rfl (Nat.le_of_ble_eq_true rfl) dModel_newName_51 rfl (by decide) H (fun v τ p1 => ?_)
  obtain ⟨I3, L4, rfl, rfl, H⟩ := p1
  refine ev_aload_n dModel_newName_54 rfl ?_
  refine ev_aload_n dModel_newName_55 rfl ?_
  refine ev_ldc2 (24948) dModel_newName_56 (q_t6 234 (by decide +kernel) rfl) ?_
  refine ev_callV [.long 24948] [.ref o] (B' := (0, 0)) (B'' := (0, 0)) hok mmModel_isWord mk_Model_178 (ci := 12) rfl rfl (woModel hw) rfl (Nat.le_of_ble_eq_true rfl) rfl (Nat.le_of_ble_eq_true rfl) dModel_newName_59 rfl (by decide) H (fun v τ p5 => ?_)
  obtain ⟨r6, I7, L8, rfl, rfl, H⟩ := p5
  refine ev_callV [.int r6] [] (B' := (0, 0)) (B'' := (0, 0)) hok mmModel_must mk_Model_196 (ci := 12) rfl rfl (woModel hw) rfl (Nat.le_of_ble_eq_true rfl) rfl (Nat.le_of_ble_eq_true rfl) dModel_newName_62 rfl (by decide) H (fun v τ p9 => ?_)
  obtain ⟨I11, L12, rfl, rfl, H⟩ := p9
  refine ev_lload_n dModel_newName_65 rfl ?_
  exact ev_lret rfl dModel_newName_66 H
def fModel_newName_37 (D : va_G) (cA : FieldType → ClassId) (b : Nat) (E : State → Prop) (o : Nat) (n : Nat) (sh : Nat → qC) (Rf : Nat → Nat → Option Nat) (I : Nat → Nat → Int32) (L : Nat → Nat → Int64) (post : Option Value → qS → Prop) (x1 : Int64) : Prop :=
  ((¬ (I o 8) = 2 → fModel_newName_51 D cA b E o n sh Rf I L post x1 0) ∧ ((I o 8) = 2 → fModel_newName_51 D cA b E o n sh Rf I L post x1 1))
set_option maxHeartbeats 4000000 in
set_option maxRecDepth 20000 in
theorem sModel_newName_37 {D : va_G} {cA : FieldType → ClassId} {b : Nat} {E : State → Prop} (o : Nat) (n : Nat) (sh : Nat → qC) (Rf : Nat → Nat → Option Nat) (I : Nat → Nat → Int32) (L : Nat → Nat → Int64) (post : Option Value → qS → Prop) (x1 : Int64) (hok : q_ok (qGG D cA b E)) (hw : WfModel (qGG D cA b E) n sh Rf o) (H : fModel_newName_37 D cA b E o n sh Rf I L post x1) : Ev (qGG D cA b E) mModel_newName 4 (0, 0) 37 [(0, .ref o), (1, .long x1)] [] (n, sh, Rf, I, L) post := by
  unfold fModel_newName_37 at H
  refine ev_aload_n dModel_newName_37 rfl ?_
  refine ev_aload_n dModel_newName_38 rfl ?_
  refine ev_getI hok fk_Model_98 (woModel hw) (fun _ _ _ => rfl) dModel_newName_39 ?_
  refine ev_iconst (2) dModel_newName_42 (by decide) ?_
  refine ev_icmp_ne 50 dModel_newName_43 (by decide) (fun c1 => ?_) (fun c1 => ?_)
  · have H := H.1 c1
    refine ev_iconst (0) dModel_newName_50 (by decide) ?_
    exact ev_sub [(0, .ref o), (1, .long x1)] rfl (sModel_newName_51 o n sh Rf I L post x1 0 hok hw H)
  · have H := H.2 c1
    refine ev_iconst (1) dModel_newName_46 (by decide) ?_
    refine ev_goto 51 dModel_newName_47 (by decide) ?_
    exact ev_sub [(0, .ref o), (1, .long x1)] rfl (sModel_newName_51 o n sh Rf I L post x1 1 hok hw H)
def fModel_newName_0 (D : va_G) (cA : FieldType → ClassId) (b : Nat) (E : State → Prop) (o : Nat) (n : Nat) (sh : Nat → qC) (Rf : Nat → Nat → Option Nat) (I : Nat → Nat → Int32) (L : Nat → Nat → Int64) (post : Option Value → qS → Prop)  : Prop :=
  Ev (qGG D cA b E) mModel_isGood 0 (0, 0) 0 (lv_args 0 [.ref o]) [] (n, sh, Rf, I, L) (fun v τ => ∃ (r2 : Int32) (I3 : Nat → Nat → Int32) (L4 : Nat → Nat → Int64), v = some (.int r2) ∧ τ = (n, sh, Rf, I3, L4) ∧ ((r2 = 0 → fModel_newName_37 D cA b E o n sh Rf I3 L4 post (L o 10)) ∧ (¬ r2 = 0 → ((¬ (I3 o 8) = 2 → fModel_newName_37 D cA b E o n sh Rf I3 L4 post (L o 10)) ∧ ((I3 o 8) = 2 → Ev (qGG D cA b E) mModel_isTold 0 (0, 0) 0 (lv_args 0 [.ref o, .long ((L o 10))]) [] (n, sh, Rf, I3, L4) (fun v τ => ∃ (r8 : Int32) (I9 : Nat → Nat → Int32) (L10 : Nat → Nat → Int64), v = some (.int r8) ∧ τ = (n, sh, Rf, I9, L10) ∧ ((r8 = 0 → fModel_newName_37 D cA b E o n sh Rf I9 L10 post (L o 10)) ∧ (¬ r8 = 0 → Ev (qGG D cA b E) mModel_fails 0 (0, 0) 0 (lv_args 0 [.ref o, .int 3, .int ((I9 o 6))]) [] (n, sh, Rf, I9, L10) (fun v τ => ∃ (I14 : Nat → Nat → Int32) (L15 : Nat → Nat → Int64), v = none ∧ τ = (n, sh, Rf, I14, L15) ∧ fModel_newName_37 D cA b E o n sh Rf I14 L15 post (L o 10))))))))))
set_option maxHeartbeats 4000000 in
set_option maxRecDepth 20000 in
theorem sModel_newName_0 {D : va_G} {cA : FieldType → ClassId} {b : Nat} {E : State → Prop} (o : Nat) (n : Nat) (sh : Nat → qC) (Rf : Nat → Nat → Option Nat) (I : Nat → Nat → Int32) (L : Nat → Nat → Int64) (post : Option Value → qS → Prop)  (hok : q_ok (qGG D cA b E)) (hw : WfModel (qGG D cA b E) n sh Rf o) (H : fModel_newName_0 D cA b E o n sh Rf I L post ) : Ev (qGG D cA b E) mModel_newName 4 (0, 0) 0 [(0, .ref o)] [] (n, sh, Rf, I, L) post := by
  unfold fModel_newName_0 at H
  refine ev_aload_n dModel_newName_0 rfl ?_
  refine ev_getL hok fk_Model_111 (woModel hw) (fun _ _ _ => rfl) dModel_newName_1 ?_
  refine ev_lstore_n dModel_newName_4 (by decide) ?_
  refine ev_aload_n dModel_newName_5 rfl ?_
  refine ev_callV [] [] (B' := (0, 0)) (B'' := (0, 0)) hok mmModel_isGood mk_Model_126 (ci := 12) rfl rfl (woModel hw) rfl (Nat.le_of_ble_eq_true rfl) rfl (Nat.le_of_ble_eq_true rfl) dModel_newName_6 rfl (by decide) H (fun v τ p1 => ?_)
  obtain ⟨r2, I3, L4, rfl, rfl, H⟩ := p1
  refine ev_if_eq 37 dModel_newName_9 (by decide) (fun c5 => ?_) (fun c5 => ?_)
  · have H := H.1 c5
    exact ev_sub [(0, .ref o), (1, .long ((L o 10)))] rfl (sModel_newName_37 o n sh Rf I3 L4 post (L o 10) hok hw H)
  · have H := H.2 c5
    refine ev_aload_n dModel_newName_12 rfl ?_
    refine ev_getI hok fk_Model_98 (woModel hw) (fun _ _ _ => rfl) dModel_newName_13 ?_
    refine ev_iconst (2) dModel_newName_16 (by decide) ?_
    refine ev_icmp_ne 37 dModel_newName_17 (by decide) (fun c6 => ?_) (fun c6 => ?_)
    · have H := H.1 c6
      exact ev_sub [(0, .ref o), (1, .long ((L o 10)))] rfl (sModel_newName_37 o n sh Rf I3 L4 post (L o 10) hok hw H)
    · have H := H.2 c6
      refine ev_aload_n dModel_newName_20 rfl ?_
      refine ev_lload_n dModel_newName_21 rfl ?_
      refine ev_callV [.long ((L o 10))] [] (B' := (0, 0)) (B'' := (0, 0)) hok mmModel_isTold mk_Model_226 (ci := 12) rfl rfl (woModel hw) rfl (Nat.le_of_ble_eq_true rfl) rfl (Nat.le_of_ble_eq_true rfl) dModel_newName_22 rfl (by decide) H (fun v τ p7 => ?_)
      obtain ⟨r8, I9, L10, rfl, rfl, H⟩ := p7
      refine ev_if_eq 37 dModel_newName_25 (by decide) (fun c11 => ?_) (fun c11 => ?_)
      · have H := H.1 c11
        exact ev_sub [(0, .ref o), (1, .long ((L o 10)))] rfl (sModel_newName_37 o n sh Rf I9 L10 post (L o 10) hok hw H)
      · have H := H.2 c11
        refine ev_aload_n dModel_newName_28 rfl ?_
        refine ev_iconst (3) dModel_newName_29 (by decide) ?_
        refine ev_aload_n dModel_newName_30 rfl ?_
        refine ev_getI hok fk_Model_95 (woModel hw) (fun _ _ _ => rfl) dModel_newName_31 ?_
        refine ev_callV [.int 3, .int ((I9 o 6))] [] (B' := (0, 0)) (B'' := (0, 0)) hok mmModel_fails mk_Model_122 (ci := 12) rfl rfl (woModel hw) rfl (Nat.le_of_ble_eq_true rfl) rfl (Nat.le_of_ble_eq_true rfl) dModel_newName_34 rfl (by decide) H (fun v τ p12 => ?_)
        obtain ⟨I14, L15, rfl, rfl, H⟩ := p12
        exact ev_sub [(0, .ref o), (1, .long ((L o 10)))] rfl (sModel_newName_37 o n sh Rf I14 L15 post (L o 10) hok hw H)
def fModel_point_19 (D : va_G) (cA : FieldType → ClassId) (b : Nat) (E : State → Prop) (o : Nat) (n : Nat) (sh : Nat → qC) (Rf : Nat → Nat → Option Nat) (I : Nat → Nat → Int32) (L : Nat → Nat → Int64) (post : Option Value → qS → Prop) (x1 : Int32) (z0 : Int32) : Prop :=
  Ev (qGG D cA b E) mModel_must 3 (0, 0) 0 (lv_args 0 [.ref o, .int z0]) [] (n, sh, Rf, I, L) (fun v τ => ∃ (I3 : Nat → Nat → Int32) (L4 : Nat → Nat → Int64), v = none ∧ τ = (n, sh, Rf, I3, L4) ∧ Ev (qGG D cA b E) mModel_isGood 0 (0, 0) 0 (lv_args 0 [.ref o]) [] (n, sh, Rf, I3, L4) (fun v τ => ∃ (r6 : Int32) (I7 : Nat → Nat → Int32) (L8 : Nat → Nat → Int64), v = some (.int r6) ∧ τ = (n, sh, Rf, I7, L8) ∧ ((r6 = 0 → post (some (.int 0)) (n, sh, Rf, I7, L8)) ∧ (¬ r6 = 0 → post (some (.int x1)) (n, sh, Rf, I7, L8)))))
set_option maxHeartbeats 4000000 in
set_option maxRecDepth 20000 in
theorem sModel_point_19 {D : va_G} {cA : FieldType → ClassId} {b : Nat} {E : State → Prop} (o : Nat) (n : Nat) (sh : Nat → qC) (Rf : Nat → Nat → Option Nat) (I : Nat → Nat → Int32) (L : Nat → Nat → Int64) (post : Option Value → qS → Prop) (x1 : Int32) (z0 : Int32) (hok : q_ok (qGG D cA b E)) (hw : WfModel (qGG D cA b E) n sh Rf o) (H : fModel_point_19 D cA b E o n sh Rf I L post x1 z0) : Ev (qGG D cA b E) mModel_point 4 (0, 0) 19 [(0, .ref o), (1, .int x1)] [.int z0, .ref o] (n, sh, Rf, I, L) post := by
  unfold fModel_point_19 at H
  refine ev_callV [.int z0] [] (B' := (0, 0)) (B'' := (0, 0)) hok mmModel_must mk_Model_196 (ci := 12) rfl rfl (woModel hw) rfl (Nat.le_of_ble_eq_true rfl) rfl (Nat.le_of_ble_eq_true rfl) dModel_point_19 rfl (by decide) H (fun v τ p1 => ?_)
  obtain ⟨I3, L4, rfl, rfl, H⟩ := p1
  refine ev_aload_n dModel_point_22 rfl ?_
  refine ev_callV [] [] (B' := (0, 0)) (B'' := (0, 0)) hok mmModel_isGood mk_Model_126 (ci := 12) rfl rfl (woModel hw) rfl (Nat.le_of_ble_eq_true rfl) rfl (Nat.le_of_ble_eq_true rfl) dModel_point_23 rfl (by decide) H (fun v τ p5 => ?_)
  obtain ⟨r6, I7, L8, rfl, rfl, H⟩ := p5
  refine ev_if_eq 33 dModel_point_26 (by decide) (fun c9 => ?_) (fun c9 => ?_)
  · have H := H.1 c9
    refine ev_iconst (0) dModel_point_33 (by decide) ?_
    exact ev_iret rfl dModel_point_34 H
  · have H := H.2 c9
    refine ev_iload_n dModel_point_29 rfl ?_
    refine ev_goto 34 dModel_point_30 (by decide) ?_
    exact ev_iret rfl dModel_point_34 H
def fModel_point_0 (D : va_G) (cA : FieldType → ClassId) (b : Nat) (E : State → Prop) (o : Nat) (n : Nat) (sh : Nat → qC) (Rf : Nat → Nat → Option Nat) (I : Nat → Nat → Int32) (L : Nat → Nat → Int64) (post : Option Value → qS → Prop)  : Prop :=
  ((¬ (I o 8) = 5 → fModel_point_19 D cA b E o n sh Rf I L post (I o 9) 0) ∧ ((I o 8) = 5 → fModel_point_19 D cA b E o n sh Rf I L post (I o 9) 1))
set_option maxHeartbeats 4000000 in
set_option maxRecDepth 20000 in
theorem sModel_point_0 {D : va_G} {cA : FieldType → ClassId} {b : Nat} {E : State → Prop} (o : Nat) (n : Nat) (sh : Nat → qC) (Rf : Nat → Nat → Option Nat) (I : Nat → Nat → Int32) (L : Nat → Nat → Int64) (post : Option Value → qS → Prop)  (hok : q_ok (qGG D cA b E)) (hw : WfModel (qGG D cA b E) n sh Rf o) (H : fModel_point_0 D cA b E o n sh Rf I L post ) : Ev (qGG D cA b E) mModel_point 4 (0, 0) 0 [(0, .ref o)] [] (n, sh, Rf, I, L) post := by
  unfold fModel_point_0 at H
  refine ev_aload_n dModel_point_0 rfl ?_
  refine ev_getI hok fk_Model_108 (woModel hw) (fun _ _ _ => rfl) dModel_point_1 ?_
  refine ev_istore_n dModel_point_4 (by decide) ?_
  refine ev_aload_n dModel_point_5 rfl ?_
  refine ev_aload_n dModel_point_6 rfl ?_
  refine ev_getI hok fk_Model_98 (woModel hw) (fun _ _ _ => rfl) dModel_point_7 ?_
  refine ev_iconst (5) dModel_point_10 (by decide) ?_
  refine ev_icmp_ne 18 dModel_point_11 (by decide) (fun c1 => ?_) (fun c1 => ?_)
  · have H := H.1 c1
    refine ev_iconst (0) dModel_point_18 (by decide) ?_
    exact ev_sub [(0, .ref o), (1, .int ((I o 9)))] rfl (sModel_point_19 o n sh Rf I L post (I o 9) 0 hok hw H)
  · have H := H.2 c1
    refine ev_iconst (1) dModel_point_14 (by decide) ?_
    refine ev_goto 19 dModel_point_15 (by decide) ?_
    exact ev_sub [(0, .ref o), (1, .int ((I o 9)))] rfl (sModel_point_19 o n sh Rf I L post (I o 9) 1 hok hw H)
def fModel_told_184 (D : va_G) (cA : FieldType → ClassId) (b : Nat) (E : State → Prop) (o : Nat) (n : Nat) (sh : Nat → qC) (Rf : Nat → Nat → Option Nat) (I : Nat → Nat → Int32) (L : Nat → Nat → Int64) (post : Option Value → qS → Prop) (x1 : Int32) (x2 : Int32) (x3 : Int32) (x4 : Int32) (x5 : Int32) (x6 : Int32) : Prop :=
  Ev (qGG D cA b E) mModel_told 4 (0, 0) 35 [(0, .ref o), (1, .int x1), (2, .int x2), (3, .int x3), (4, .int x4), (5, .int ((x5 + Int32.ofInt 1)))] [] (n, sh, Rf, I, L) post
set_option maxHeartbeats 4000000 in
set_option maxRecDepth 20000 in
theorem sModel_told_184 {D : va_G} {cA : FieldType → ClassId} {b : Nat} {E : State → Prop} (o : Nat) (n : Nat) (sh : Nat → qC) (Rf : Nat → Nat → Option Nat) (I : Nat → Nat → Int32) (L : Nat → Nat → Int64) (post : Option Value → qS → Prop) (x1 : Int32) (x2 : Int32) (x3 : Int32) (x4 : Int32) (x5 : Int32) (x6 : Int32) (hok : q_ok (qGG D cA b E)) (hw : WfModel (qGG D cA b E) n sh Rf o) (H : fModel_told_184 D cA b E o n sh Rf I L post x1 x2 x3 x4 x5 x6) : Ev (qGG D cA b E) mModel_told 4 (0, 0) 184 [(0, .ref o), (1, .int x1), (2, .int x2), (3, .int x3), (4, .int x4), (5, .int x5), (6, .int x6)] [] (n, sh, Rf, I, L) post := by
  unfold fModel_told_184 at H
  refine ev_iinc dModel_told_184 rfl (by decide) ?_
  refine ev_goto 35 dModel_told_187 (by decide) ?_
  exact ev_sub [(0, .ref o), (1, .int x1), (2, .int x2), (3, .int x3), (4, .int x4), (5, .int ((x5 + Int32.ofInt 1)))] rfl H
def fModel_told_125 (D : va_G) (cA : FieldType → ClassId) (b : Nat) (E : State → Prop) (o : Nat) (n : Nat) (sh : Nat → qC) (Rf : Nat → Nat → Option Nat) (I : Nat → Nat → Int32) (L : Nat → Nat → Int64) (post : Option Value → qS → Prop) (x1 : Int32) (x2 : Int32) (x3 : Int32) (x4 : Int32) (x5 : Int32) (x6 : Int32) : Prop :=
  vp_in x5 4200 ∧ Ev (qGG D cA b E) mModel_term 3 (0, 0) 0 (lv_args 0 [.ref o, .int x6, .int ((I (o + 31) (x5 : Int32).toNatClampNeg))]) [] (n, sh, Rf, I, L) (fun v τ => ∃ (r3 : Int32) (I4 : Nat → Nat → Int32) (L5 : Nat → Nat → Int64), v = some (.int r3) ∧ τ = (n, sh, Rf, I4, L5) ∧ vp_in x4 120 ∧ ∀ I6 : Nat → Nat → Int32, q_u I4 (o + 34) (x4 : Int32).toNatClampNeg r3 = I6 → fModel_told_184 D cA b E o n sh Rf I6 L5 post x1 x2 x3 (x4 + Int32.ofInt 1) x5 x6)
set_option maxHeartbeats 4000000 in
set_option maxRecDepth 20000 in
theorem sModel_told_125 {D : va_G} {cA : FieldType → ClassId} {b : Nat} {E : State → Prop} (o : Nat) (n : Nat) (sh : Nat → qC) (Rf : Nat → Nat → Option Nat) (I : Nat → Nat → Int32) (L : Nat → Nat → Int64) (post : Option Value → qS → Prop) (x1 : Int32) (x2 : Int32) (x3 : Int32) (x4 : Int32) (x5 : Int32) (x6 : Int32) (hok : q_ok (qGG D cA b E)) (hw : WfModel (qGG D cA b E) n sh Rf o) (H : fModel_told_125 D cA b E o n sh Rf I L post x1 x2 x3 x4 x5 x6) : Ev (qGG D cA b E) mModel_told 4 (0, 0) 125 [(0, .ref o), (1, .int x1), (2, .int x2), (3, .int x3), (4, .int x4), (5, .int x5), (6, .int x6)] [] (n, sh, Rf, I, L) post := by
  unfold fModel_told_125 at H
  refine ev_aload_n dModel_told_125 rfl ?_
  refine ev_getR hok fk_Model_375 (woModel hw) (fun _ _ _ => rfl) (wrModel_58 hw) dModel_told_126 ?_
  refine ev_iload dModel_told_129 rfl ?_
  refine ev_aload_n dModel_told_131 rfl ?_
  refine ev_iload dModel_told_132 rfl ?_
  refine ev_aload_n dModel_told_134 rfl ?_
  refine ev_getR hok fk_Model_306 (woModel hw) (fun _ _ _ => rfl) (wrModel_42 hw) dModel_told_135 ?_
  refine ev_iload dModel_told_138 rfl ?_
  obtain ⟨h1, H⟩ := H
  refine ev_iald hok (waModel_42 hw) h1 dModel_told_140 ?_
  refine ev_callV [.int x6, .int ((I (o + 31) (x5 : Int32).toNatClampNeg))] [.int x4, .ref ((o + 34))] (B' := (0, 0)) (B'' := (0, 0)) hok mmModel_term mk_Model_377 (ci := 12) rfl rfl (woModel hw) rfl (Nat.le_of_ble_eq_true rfl) rfl (Nat.le_of_ble_eq_true rfl) dModel_told_141 rfl (by decide) H (fun v τ p2 => ?_)
  obtain ⟨r3, I4, L5, rfl, rfl, H⟩ := p2
  obtain ⟨h7, H⟩ := H
  refine ev_iast hok (waModel_58 hw) h7 dModel_told_144 ?_
  generalize eI6 : q_u I4 (o + 34) (x4 : Int32).toNatClampNeg r3 = I6
  have H := H I6 eI6
  refine ev_iinc dModel_told_145 rfl (by decide) ?_
  refine ev_goto 184 dModel_told_148 (by decide) ?_
  exact ev_sub [(0, .ref o), (1, .int x1), (2, .int x2), (3, .int x3), (4, .int ((x4 + Int32.ofInt 1))), (5, .int x5), (6, .int x6)] rfl (sModel_told_184 o n sh Rf I6 L5 post x1 x2 x3 (x4 + Int32.ofInt 1) x5 x6 hok hw H)
def fModel_told_111 (D : va_G) (cA : FieldType → ClassId) (b : Nat) (E : State → Prop) (o : Nat) (n : Nat) (sh : Nat → qC) (Rf : Nat → Nat → Option Nat) (I : Nat → Nat → Int32) (L : Nat → Nat → Int64) (post : Option Value → qS → Prop) (x1 : Int32) (x2 : Int32) (x3 : Int32) (x4 : Int32) (x5 : Int32) (x6 : Int32) : Prop :=
  ((x6 = 78 → fModel_told_125 D cA b E o n sh Rf I L post x1 x2 x3 x4 x5 x6) ∧ (¬ x6 = 78 → ((¬ x6 = 68 → vp_in ((x4 + Int32.ofInt (-1)) - 1) 120 ∧ vp_in (x4 + Int32.ofInt (-1)) 120 ∧ Ev (qGG D cA b E) mModel_two 0 (0, 0) 0 (lv_args 0 [.int x6, .int ((I (o + 34) (((x4 + Int32.ofInt (-1)) - 1) : Int32).toNatClampNeg)), .int ((I (o + 34) ((x4 + Int32.ofInt (-1)) : Int32).toNatClampNeg))]) [] (n, sh, Rf, I, L) (fun v τ => ∃ (r6 : Int32) (I7 : Nat → Nat → Int32) (L8 : Nat → Nat → Int64), v = some (.int r6) ∧ τ = (n, sh, Rf, I7, L8) ∧ vp_in ((x4 + Int32.ofInt (-1)) - 1) 120 ∧ ∀ I9 : Nat → Nat → Int32, q_u I7 (o + 34) (((x4 + Int32.ofInt (-1)) - 1) : Int32).toNatClampNeg r6 = I9 → fModel_told_184 D cA b E o n sh Rf I9 L8 post x1 x2 x3 (x4 + Int32.ofInt (-1)) x5 x6)) ∧ (x6 = 68 → fModel_told_125 D cA b E o n sh Rf I L post x1 x2 x3 x4 x5 x6))))
set_option maxHeartbeats 4000000 in
set_option maxRecDepth 20000 in
theorem sModel_told_111 {D : va_G} {cA : FieldType → ClassId} {b : Nat} {E : State → Prop} (o : Nat) (n : Nat) (sh : Nat → qC) (Rf : Nat → Nat → Option Nat) (I : Nat → Nat → Int32) (L : Nat → Nat → Int64) (post : Option Value → qS → Prop) (x1 : Int32) (x2 : Int32) (x3 : Int32) (x4 : Int32) (x5 : Int32) (x6 : Int32) (hok : q_ok (qGG D cA b E)) (hw : WfModel (qGG D cA b E) n sh Rf o) (H : fModel_told_111 D cA b E o n sh Rf I L post x1 x2 x3 x4 x5 x6) : Ev (qGG D cA b E) mModel_told 4 (0, 0) 111 [(0, .ref o), (1, .int x1), (2, .int x2), (3, .int x3), (4, .int x4), (5, .int x5), (6, .int x6)] [] (n, sh, Rf, I, L) post := by
  unfold fModel_told_111 at H
  refine ev_iload dModel_told_111 rfl ?_
  refine ev_bipush (78) dModel_told_113 (by decide) ?_
  refine ev_icmp_eq 125 dModel_told_115 (by decide) (fun c1 => ?_) (fun c1 => ?_)
  · have H := H.1 c1
    exact ev_sub [(0, .ref o), (1, .int x1), (2, .int x2), (3, .int x3), (4, .int x4), (5, .int x5), (6, .int x6)] rfl (sModel_told_125 o n sh Rf I L post x1 x2 x3 x4 x5 x6 hok hw H)
  · have H := H.2 c1
    refine ev_iload dModel_told_118 rfl ?_
    refine ev_bipush (68) dModel_told_120 (by decide) ?_
    refine ev_icmp_ne 151 dModel_told_122 (by decide) (fun c2 => ?_) (fun c2 => ?_)
    · have H := H.1 c2
      refine ev_iinc dModel_told_151 rfl (by decide) ?_
      refine ev_aload_n dModel_told_154 rfl ?_
      refine ev_getR hok fk_Model_375 (woModel hw) (fun _ _ _ => rfl) (wrModel_58 hw) dModel_told_155 ?_
      refine ev_iload dModel_told_158 rfl ?_
      refine ev_iconst (1) dModel_told_160 (by decide) ?_
      refine ev_isub dModel_told_161 ?_
      refine ev_iload dModel_told_162 rfl ?_
      refine ev_aload_n dModel_told_164 rfl ?_
      refine ev_getR hok fk_Model_375 (woModel hw) (fun _ _ _ => rfl) (wrModel_58 hw) dModel_told_165 ?_
      refine ev_iload dModel_told_168 rfl ?_
      refine ev_iconst (1) dModel_told_170 (by decide) ?_
      refine ev_isub dModel_told_171 ?_
      obtain ⟨h3, H⟩ := H
      refine ev_iald hok (waModel_58 hw) h3 dModel_told_172 ?_
      refine ev_aload_n dModel_told_173 rfl ?_
      refine ev_getR hok fk_Model_375 (woModel hw) (fun _ _ _ => rfl) (wrModel_58 hw) dModel_told_174 ?_
      refine ev_iload dModel_told_177 rfl ?_
      obtain ⟨h4, H⟩ := H
      refine ev_iald hok (waModel_58 hw) h4 dModel_told_179 ?_
      refine ev_callS [.int x6, .int ((I (o + 34) (((x4 + Int32.ofInt (-1)) - 1) : Int32).toNatClampNeg)), .int ((I (o + 34) ((x4 + Int32.ofInt (-1)) : Int32).toNatClampNeg))] [.int (((x4 + Int32.ofInt (-1)) - 1)), .ref ((o + 34))] (B' := (0, 0)) (B'' := (0, 0)) hok mmModel_two mk_Model_380 rfl (Nat.le_of_ble_eq_true rfl) rfl (Nat.le_of_ble_eq_true rfl) dModel_told_180 rfl (by decide) H (fun v τ p5 => ?_)
      obtain ⟨r6, I7, L8, rfl, rfl, H⟩ := p5
      obtain ⟨h10, H⟩ := H
      refine ev_iast hok (waModel_58 hw) h10 dModel_told_183 ?_
      generalize eI9 : q_u I7 (o + 34) (((x4 + Int32.ofInt (-1)) - 1) : Int32).toNatClampNeg r6 = I9
      have H := H I9 eI9
      exact ev_sub [(0, .ref o), (1, .int x1), (2, .int x2), (3, .int x3), (4, .int ((x4 + Int32.ofInt (-1)))), (5, .int x5), (6, .int x6)] rfl (sModel_told_184 o n sh Rf I9 L8 post x1 x2 x3 (x4 + Int32.ofInt (-1)) x5 x6 hok hw H)
    · have H := H.2 c2
      exact ev_sub [(0, .ref o), (1, .int x1), (2, .int x2), (3, .int x3), (4, .int x4), (5, .int x5), (6, .int x6)] rfl (sModel_told_125 o n sh Rf I L post x1 x2 x3 x4 x5 x6 hok hw H)
def fModel_told_93 (D : va_G) (cA : FieldType → ClassId) (b : Nat) (E : State → Prop) (o : Nat) (n : Nat) (sh : Nat → qC) (Rf : Nat → Nat → Option Nat) (I : Nat → Nat → Int32) (L : Nat → Nat → Int64) (post : Option Value → qS → Prop) (x1 : Int32) (x2 : Int32) (x3 : Int32) (x4 : Int32) (x5 : Int32) (x6 : Int32) (z0 : Int32) (z1 : Int32) : Prop :=
  vp_in z1 120 ∧ ∀ I1 : Nat → Nat → Int32, q_u I (o + 34) (z1 : Int32).toNatClampNeg z0 = I1 → fModel_told_184 D cA b E o n sh Rf I1 L post x1 x2 x3 x4 x5 x6
set_option maxHeartbeats 4000000 in
set_option maxRecDepth 20000 in
theorem sModel_told_93 {D : va_G} {cA : FieldType → ClassId} {b : Nat} {E : State → Prop} (o : Nat) (n : Nat) (sh : Nat → qC) (Rf : Nat → Nat → Option Nat) (I : Nat → Nat → Int32) (L : Nat → Nat → Int64) (post : Option Value → qS → Prop) (x1 : Int32) (x2 : Int32) (x3 : Int32) (x4 : Int32) (x5 : Int32) (x6 : Int32) (z0 : Int32) (z1 : Int32) (hok : q_ok (qGG D cA b E)) (hw : WfModel (qGG D cA b E) n sh Rf o) (H : fModel_told_93 D cA b E o n sh Rf I L post x1 x2 x3 x4 x5 x6 z0 z1) : Ev (qGG D cA b E) mModel_told 4 (0, 0) 93 [(0, .ref o), (1, .int x1), (2, .int x2), (3, .int x3), (4, .int x4), (5, .int x5), (6, .int x6)] [.int z0, .int z1, .ref ((o + 34))] (n, sh, Rf, I, L) post := by
  unfold fModel_told_93 at H
  obtain ⟨h2, H⟩ := H
  refine ev_iast hok (waModel_58 hw) h2 dModel_told_93 ?_
  generalize eI1 : q_u I (o + 34) (z1 : Int32).toNatClampNeg z0 = I1
  have H := H I1 eI1
  refine ev_goto 184 dModel_told_94 (by decide) ?_
  exact ev_sub [(0, .ref o), (1, .int x1), (2, .int x2), (3, .int x3), (4, .int x4), (5, .int x5), (6, .int x6)] rfl (sModel_told_184 o n sh Rf I1 L post x1 x2 x3 x4 x5 x6 hok hw H)
def fModel_told_35 (D : va_G) (cA : FieldType → ClassId) (b : Nat) (E : State → Prop) (o : Nat) (n : Nat) (sh : Nat → qC) (Rf : Nat → Nat → Option Nat) (I : Nat → Nat → Int32) (L : Nat → Nat → Int64) (post : Option Value → qS → Prop) (x1 : Int32) (x2 : Int32) (x3 : Int32) (x4 : Int32) (x5 : Int32) : Prop :=
  vp_in x3 60 ∧ ((((700 * x1) + (I (o + 27) (x3 : Int32).toNatClampNeg)) ≤ x5 → post (some (.int ((I (o + 34) 0)))) (n, sh, Rf, I, L)) ∧ (¬ ((700 * x1) + (I (o + 27) (x3 : Int32).toNatClampNeg)) ≤ x5 → vp_in x5 4200 ∧ ((¬ (I (o + 30) (x5 : Int32).toNatClampNeg) = 126 → (((I (o + 30) (x5 : Int32).toNatClampNeg) < 97 → fModel_told_111 D cA b E o n sh Rf I L post x1 x2 x3 x4 x5 (I (o + 30) (x5 : Int32).toNatClampNeg)) ∧ (¬ (I (o + 30) (x5 : Int32).toNatClampNeg) < 97 → (((I (o + 30) (x5 : Int32).toNatClampNeg) ≤ 122 → fModel_told_125 D cA b E o n sh Rf I L post x1 x2 x3 x4 x5 (I (o + 30) (x5 : Int32).toNatClampNeg)) ∧ (¬ (I (o + 30) (x5 : Int32).toNatClampNeg) ≤ 122 → fModel_told_111 D cA b E o n sh Rf I L post x1 x2 x3 x4 x5 (I (o + 30) (x5 : Int32).toNatClampNeg)))))) ∧ ((I (o + 30) (x5 : Int32).toNatClampNeg) = 126 → vp_in (x4 - 1) 120 ∧ ((¬ (I (o + 34) ((x4 - 1) : Int32).toNatClampNeg) = 0 → fModel_told_93 D cA b E o n sh Rf I L post x1 x2 x3 x4 x5 (I (o + 30) (x5 : Int32).toNatClampNeg) 0 (x4 - 1)) ∧ ((I (o + 34) ((x4 - 1) : Int32).toNatClampNeg) = 0 → fModel_told_93 D cA b E o n sh Rf I L post x1 x2 x3 x4 x5 (I (o + 30) (x5 : Int32).toNatClampNeg) 1 (x4 - 1)))))))
set_option maxHeartbeats 4000000 in
set_option maxRecDepth 20000 in
theorem sModel_told_35 {D : va_G} {cA : FieldType → ClassId} {b : Nat} {E : State → Prop} (o : Nat) (n : Nat) (sh : Nat → qC) (Rf : Nat → Nat → Option Nat) (I : Nat → Nat → Int32) (L : Nat → Nat → Int64) (post : Option Value → qS → Prop) (x1 : Int32) (x2 : Int32) (x3 : Int32) (x4 : Int32) (x5 : Int32) (hok : q_ok (qGG D cA b E)) (hw : WfModel (qGG D cA b E) n sh Rf o) (H : fModel_told_35 D cA b E o n sh Rf I L post x1 x2 x3 x4 x5) : Ev (qGG D cA b E) mModel_told 4 (0, 0) 35 [(0, .ref o), (1, .int x1), (2, .int x2), (3, .int x3), (4, .int x4), (5, .int x5)] [] (n, sh, Rf, I, L) post := by
  unfold fModel_told_35 at H
  refine ev_iload dModel_told_35 rfl ?_
  refine ev_sipush (700) dModel_told_37 (by decide) ?_
  refine ev_iload_n dModel_told_40 rfl ?_
  refine ev_imul dModel_told_41 ?_
  refine ev_aload_n dModel_told_42 rfl ?_
  refine ev_getR hok fk_Model_300 (woModel hw) (fun _ _ _ => rfl) (wrModel_38 hw) dModel_told_43 ?_
  refine ev_iload_n dModel_told_46 rfl ?_
  obtain ⟨h1, H⟩ := H
  refine ev_iald hok (waModel_38 hw) h1 dModel_told_47 ?_
  refine ev_iadd dModel_told_48 ?_
  refine ev_icmp_ge 190 dModel_told_49 (by decide) (fun c2 => ?_) (fun c2 => ?_)
  · have H := H.1 c2
    refine ev_aload_n dModel_told_190 rfl ?_
    refine ev_getR hok fk_Model_375 (woModel hw) (fun _ _ _ => rfl) (wrModel_58 hw) dModel_told_191 ?_
    refine ev_iconst (0) dModel_told_194 (by decide) ?_
    refine ev_iald hok (waModel_58 hw) (by unfold vp_in; decide) dModel_told_195 ?_
    rw [show (0 : Int32).toNatClampNeg = 0 from rfl]
    exact ev_iret rfl dModel_told_196 H
  · have H := H.2 c2
    refine ev_aload_n dModel_told_52 rfl ?_
    refine ev_getR hok fk_Model_303 (woModel hw) (fun _ _ _ => rfl) (wrModel_41 hw) dModel_told_53 ?_
    refine ev_iload dModel_told_56 rfl ?_
    obtain ⟨h3, H⟩ := H
    refine ev_iald hok (waModel_41 hw) h3 dModel_told_58 ?_
    refine ev_istore dModel_told_59 (by decide) ?_
    refine ev_iload dModel_told_61 rfl ?_
    refine ev_bipush (126) dModel_told_63 (by decide) ?_
    refine ev_icmp_ne 97 dModel_told_65 (by decide) (fun c4 => ?_) (fun c4 => ?_)
    · have H := H.1 c4
      refine ev_iload dModel_told_97 rfl ?_
      refine ev_bipush (97) dModel_told_99 (by decide) ?_
      refine ev_icmp_lt 111 dModel_told_101 (by decide) (fun c5 => ?_) (fun c5 => ?_)
      · have H := H.1 c5
        exact ev_sub [(0, .ref o), (1, .int x1), (2, .int x2), (3, .int x3), (4, .int x4), (5, .int x5), (6, .int ((I (o + 30) (x5 : Int32).toNatClampNeg)))] rfl (sModel_told_111 o n sh Rf I L post x1 x2 x3 x4 x5 (I (o + 30) (x5 : Int32).toNatClampNeg) hok hw H)
      · have H := H.2 c5
        refine ev_iload dModel_told_104 rfl ?_
        refine ev_bipush (122) dModel_told_106 (by decide) ?_
        refine ev_icmp_le 125 dModel_told_108 (by decide) (fun c6 => ?_) (fun c6 => ?_)
        · have H := H.1 c6
          exact ev_sub [(0, .ref o), (1, .int x1), (2, .int x2), (3, .int x3), (4, .int x4), (5, .int x5), (6, .int ((I (o + 30) (x5 : Int32).toNatClampNeg)))] rfl (sModel_told_125 o n sh Rf I L post x1 x2 x3 x4 x5 (I (o + 30) (x5 : Int32).toNatClampNeg) hok hw H)
        · have H := H.2 c6
          exact ev_sub [(0, .ref o), (1, .int x1), (2, .int x2), (3, .int x3), (4, .int x4), (5, .int x5), (6, .int ((I (o + 30) (x5 : Int32).toNatClampNeg)))] rfl (sModel_told_111 o n sh Rf I L post x1 x2 x3 x4 x5 (I (o + 30) (x5 : Int32).toNatClampNeg) hok hw H)
    · have H := H.2 c4
      refine ev_aload_n dModel_told_68 rfl ?_
      refine ev_getR hok fk_Model_375 (woModel hw) (fun _ _ _ => rfl) (wrModel_58 hw) dModel_told_69 ?_
      refine ev_iload dModel_told_72 rfl ?_
      refine ev_iconst (1) dModel_told_74 (by decide) ?_
      refine ev_isub dModel_told_75 ?_
      refine ev_aload_n dModel_told_76 rfl ?_
      refine ev_getR hok fk_Model_375 (woModel hw) (fun _ _ _ => rfl) (wrModel_58 hw) dModel_told_77 ?_
      refine ev_iload dModel_told_80 rfl ?_
      refine ev_iconst (1) dModel_told_82 (by decide) ?_
      refine ev_isub dModel_told_83 ?_
      obtain ⟨h7, H⟩ := H
      refine ev_iald hok (waModel_58 hw) h7 dModel_told_84 ?_
      refine ev_if_ne 92 dModel_told_85 (by decide) (fun c8 => ?_) (fun c8 => ?_)
      · have H := H.1 c8
        refine ev_iconst (0) dModel_told_92 (by decide) ?_
        exact ev_sub [(0, .ref o), (1, .int x1), (2, .int x2), (3, .int x3), (4, .int x4), (5, .int x5), (6, .int ((I (o + 30) (x5 : Int32).toNatClampNeg)))] rfl (sModel_told_93 o n sh Rf I L post x1 x2 x3 x4 x5 (I (o + 30) (x5 : Int32).toNatClampNeg) 0 (x4 - 1) hok hw H)
      · have H := H.2 c8
        refine ev_iconst (1) dModel_told_88 (by decide) ?_
        refine ev_goto 93 dModel_told_89 (by decide) ?_
        exact ev_sub [(0, .ref o), (1, .int x1), (2, .int x2), (3, .int x3), (4, .int x4), (5, .int x5), (6, .int ((I (o + 30) (x5 : Int32).toNatClampNeg)))] rfl (sModel_told_93 o n sh Rf I L post x1 x2 x3 x4 x5 (I (o + 30) (x5 : Int32).toNatClampNeg) 1 (x4 - 1) hok hw H)
def fModel_told_0 (D : va_G) (cA : FieldType → ClassId) (b : Nat) (E : State → Prop) (o : Nat) (n : Nat) (sh : Nat → qC) (Rf : Nat → Nat → Option Nat) (I : Nat → Nat → Int32) (L : Nat → Nat → Int64) (post : Option Value → qS → Prop) (x1 : Int32) (x2 : Int32) : Prop :=
  vp_in ((10 * x1) + x2) 60 ∧ ((0 ≤ (I (o + 26) (((10 * x1) + x2) : Int32).toNatClampNeg) → vp_in ((10 * x1) + x2) 60 ∧ Ev (qGG D cA b E) mModel_told 4 (0, 0) 35 [(0, .ref o), (1, .int x1), (2, .int x2), (3, .int (((10 * x1) + x2))), (4, .int 0), (5, .int (((700 * x1) + (I (o + 26) (((10 * x1) + x2) : Int32).toNatClampNeg))))] [] (n, sh, Rf, I, L) post) ∧ (¬ 0 ≤ (I (o + 26) (((10 * x1) + x2) : Int32).toNatClampNeg) → post (some (.int 0)) (n, sh, Rf, I, L)))
set_option maxHeartbeats 4000000 in
set_option maxRecDepth 20000 in
theorem sModel_told_0 {D : va_G} {cA : FieldType → ClassId} {b : Nat} {E : State → Prop} (o : Nat) (n : Nat) (sh : Nat → qC) (Rf : Nat → Nat → Option Nat) (I : Nat → Nat → Int32) (L : Nat → Nat → Int64) (post : Option Value → qS → Prop) (x1 : Int32) (x2 : Int32) (hok : q_ok (qGG D cA b E)) (hw : WfModel (qGG D cA b E) n sh Rf o) (H : fModel_told_0 D cA b E o n sh Rf I L post x1 x2) : Ev (qGG D cA b E) mModel_told 4 (0, 0) 0 [(0, .ref o), (1, .int x1), (2, .int x2)] [] (n, sh, Rf, I, L) post := by
  unfold fModel_told_0 at H
  refine ev_bipush (10) dModel_told_0 (by decide) ?_
  refine ev_iload_n dModel_told_2 rfl ?_
  refine ev_imul dModel_told_3 ?_
  refine ev_iload_n dModel_told_4 rfl ?_
  refine ev_iadd dModel_told_5 ?_
  refine ev_istore_n dModel_told_6 (by decide) ?_
  refine ev_aload_n dModel_told_7 rfl ?_
  refine ev_getR hok fk_Model_285 (woModel hw) (fun _ _ _ => rfl) (wrModel_37 hw) dModel_told_8 ?_
  refine ev_iload_n dModel_told_11 rfl ?_
  obtain ⟨h1, H⟩ := H
  refine ev_iald hok (waModel_37 hw) h1 dModel_told_12 ?_
  refine ev_if_ge 18 dModel_told_13 (by decide) (fun c2 => ?_) (fun c2 => ?_)
  · have H := H.1 c2
    refine ev_iconst (0) dModel_told_18 (by decide) ?_
    refine ev_istore dModel_told_19 (by decide) ?_
    refine ev_sipush (700) dModel_told_21 (by decide) ?_
    refine ev_iload_n dModel_told_24 rfl ?_
    refine ev_imul dModel_told_25 ?_
    refine ev_aload_n dModel_told_26 rfl ?_
    refine ev_getR hok fk_Model_285 (woModel hw) (fun _ _ _ => rfl) (wrModel_37 hw) dModel_told_27 ?_
    refine ev_iload_n dModel_told_30 rfl ?_
    obtain ⟨h3, H⟩ := H
    refine ev_iald hok (waModel_37 hw) h3 dModel_told_31 ?_
    refine ev_iadd dModel_told_32 ?_
    refine ev_istore dModel_told_33 (by decide) ?_
    exact ev_sub [(0, .ref o), (1, .int x1), (2, .int x2), (3, .int (((10 * x1) + x2))), (4, .int 0), (5, .int (((700 * x1) + (I (o + 26) (((10 * x1) + x2) : Int32).toNatClampNeg))))] rfl H
  · have H := H.2 c2
    refine ev_iconst (0) dModel_told_16 (by decide) ?_
    exact ev_iret rfl dModel_told_17 H
def fModel_bounded_20 (D : va_G) (cA : FieldType → ClassId) (b : Nat) (E : State → Prop) (o : Nat) (n : Nat) (sh : Nat → qC) (Rf : Nat → Nat → Option Nat) (I : Nat → Nat → Int32) (L : Nat → Nat → Int64) (post : Option Value → qS → Prop) (x1 : Int32) (x2 : Int32) (x3 : Int32) (z0 : Int32) : Prop :=
  ((0 ≤ x3 → ((x3 ≤ z0 → post (some (.int x3)) (n, sh, Rf, I, L)) ∧ (¬ x3 ≤ z0 → post (some (.int z0)) (n, sh, Rf, I, L)))) ∧ (¬ 0 ≤ x3 → post (some (.int 0)) (n, sh, Rf, I, L)))
set_option maxHeartbeats 4000000 in
set_option maxRecDepth 20000 in
theorem sModel_bounded_20 {D : va_G} {cA : FieldType → ClassId} {b : Nat} {E : State → Prop} (o : Nat) (n : Nat) (sh : Nat → qC) (Rf : Nat → Nat → Option Nat) (I : Nat → Nat → Int32) (L : Nat → Nat → Int64) (post : Option Value → qS → Prop) (x1 : Int32) (x2 : Int32) (x3 : Int32) (z0 : Int32) (hok : q_ok (qGG D cA b E)) (hw : WfModel (qGG D cA b E) n sh Rf o) (H : fModel_bounded_20 D cA b E o n sh Rf I L post x1 x2 x3 z0) : Ev (qGG D cA b E) mModel_bounded 5 (0, 0) 20 [(0, .ref o), (1, .int x1), (2, .int x2), (3, .int x3)] [.int z0] (n, sh, Rf, I, L) post := by
  unfold fModel_bounded_20 at H
  refine ev_istore dModel_bounded_20 (by decide) ?_
  refine ev_iload_n dModel_bounded_22 rfl ?_
  refine ev_if_ge 30 dModel_bounded_23 (by decide) (fun c1 => ?_) (fun c1 => ?_)
  · have H := H.1 c1
    refine ev_iload_n dModel_bounded_30 rfl ?_
    refine ev_iload dModel_bounded_31 rfl ?_
    refine ev_icmp_le 41 dModel_bounded_33 (by decide) (fun c2 => ?_) (fun c2 => ?_)
    · have H := H.1 c2
      refine ev_iload_n dModel_bounded_41 rfl ?_
      exact ev_iret rfl dModel_bounded_42 H
    · have H := H.2 c2
      refine ev_iload dModel_bounded_36 rfl ?_
      refine ev_goto 42 dModel_bounded_38 (by decide) ?_
      exact ev_iret rfl dModel_bounded_42 H
  · have H := H.2 c1
    refine ev_iconst (0) dModel_bounded_26 (by decide) ?_
    refine ev_goto 42 dModel_bounded_27 (by decide) ?_
    exact ev_iret rfl dModel_bounded_42 H
def fModel_bounded_0 (D : va_G) (cA : FieldType → ClassId) (b : Nat) (E : State → Prop) (o : Nat) (n : Nat) (sh : Nat → qC) (Rf : Nat → Nat → Option Nat) (I : Nat → Nat → Int32) (L : Nat → Nat → Int64) (post : Option Value → qS → Prop) (x1 : Int32) (x2 : Int32) : Prop :=
  Ev (qGG D cA b E) mModel_told 4 (0, 0) 0 (lv_args 0 [.ref o, .int x1, .int x2]) [] (n, sh, Rf, I, L) (fun v τ => ∃ (r2 : Int32) (I3 : Nat → Nat → Int32) (L4 : Nat → Nat → Int64), v = some (.int r2) ∧ τ = (n, sh, Rf, I3, L4) ∧ ((¬ x2 = 4 → fModel_bounded_20 D cA b E o n sh Rf I3 L4 post x1 x2 r2 9999) ∧ (x2 = 4 → fModel_bounded_20 D cA b E o n sh Rf I3 L4 post x1 x2 r2 100)))
set_option maxHeartbeats 4000000 in
set_option maxRecDepth 20000 in
theorem sModel_bounded_0 {D : va_G} {cA : FieldType → ClassId} {b : Nat} {E : State → Prop} (o : Nat) (n : Nat) (sh : Nat → qC) (Rf : Nat → Nat → Option Nat) (I : Nat → Nat → Int32) (L : Nat → Nat → Int64) (post : Option Value → qS → Prop) (x1 : Int32) (x2 : Int32) (hok : q_ok (qGG D cA b E)) (hw : WfModel (qGG D cA b E) n sh Rf o) (H : fModel_bounded_0 D cA b E o n sh Rf I L post x1 x2) : Ev (qGG D cA b E) mModel_bounded 5 (0, 0) 0 [(0, .ref o), (1, .int x1), (2, .int x2)] [] (n, sh, Rf, I, L) post := by
  unfold fModel_bounded_0 at H
  refine ev_aload_n dModel_bounded_0 rfl ?_
  refine ev_iload_n dModel_bounded_1 rfl ?_
  refine ev_iload_n dModel_bounded_2 rfl ?_
  refine ev_callV [.int x1, .int x2] [] (B' := (0, 0)) (B'' := (0, 0)) hok mmModel_told mk_Model_384 (ci := 12) rfl rfl (woModel hw) rfl (Nat.le_of_ble_eq_true rfl) rfl (Nat.le_of_ble_eq_true rfl) dModel_bounded_3 rfl (by decide) H (fun v τ p1 => ?_)
  obtain ⟨r2, I3, L4, rfl, rfl, H⟩ := p1
  refine ev_istore_n dModel_bounded_6 (by decide) ?_
  refine ev_iload_n dModel_bounded_7 rfl ?_
  refine ev_iconst (4) dModel_bounded_8 (by decide) ?_
  refine ev_icmp_ne 17 dModel_bounded_9 (by decide) (fun c5 => ?_) (fun c5 => ?_)
  · have H := H.1 c5
    refine ev_sipush (9999) dModel_bounded_17 (by decide) ?_
    exact ev_sub [(0, .ref o), (1, .int x1), (2, .int x2), (3, .int r2)] rfl (sModel_bounded_20 o n sh Rf I3 L4 post x1 x2 r2 9999 hok hw H)
  · have H := H.2 c5
    refine ev_bipush (100) dModel_bounded_12 (by decide) ?_
    refine ev_goto 20 dModel_bounded_14 (by decide) ?_
    exact ev_sub [(0, .ref o), (1, .int x1), (2, .int x2), (3, .int r2)] rfl (sModel_bounded_20 o n sh Rf I3 L4 post x1 x2 r2 100 hok hw H)
def fModel_classes_116 (D : va_G) (cA : FieldType → ClassId) (b : Nat) (E : State → Prop) (o : Nat) (n : Nat) (sh : Nat → qC) (Rf : Nat → Nat → Option Nat) (I : Nat → Nat → Int32) (L : Nat → Nat → Int64) (post : Option Value → qS → Prop) (x1 : Int32) : Prop :=
  Ev (qGG D cA b E) mModel_classes 5 (0, 0) 2 [(0, .ref o), (1, .int ((x1 + Int32.ofInt 1)))] [] (n, sh, Rf, I, L) post
set_option maxHeartbeats 4000000 in
set_option maxRecDepth 20000 in
theorem sModel_classes_116 {D : va_G} {cA : FieldType → ClassId} {b : Nat} {E : State → Prop} (o : Nat) (n : Nat) (sh : Nat → qC) (Rf : Nat → Nat → Option Nat) (I : Nat → Nat → Int32) (L : Nat → Nat → Int64) (post : Option Value → qS → Prop) (x1 : Int32) (hok : q_ok (qGG D cA b E)) (hw : WfModel (qGG D cA b E) n sh Rf o) (H : fModel_classes_116 D cA b E o n sh Rf I L post x1) : Ev (qGG D cA b E) mModel_classes 5 (0, 0) 116 [(0, .ref o), (1, .int x1)] [] (n, sh, Rf, I, L) post := by
  unfold fModel_classes_116 at H
  refine ev_iinc dModel_classes_116 rfl (by decide) ?_
  refine ev_goto 2 dModel_classes_119 (by decide) ?_
  exact ev_sub [(0, .ref o), (1, .int ((x1 + Int32.ofInt 1)))] rfl H
def fModel_classes_109 (D : va_G) (cA : FieldType → ClassId) (b : Nat) (E : State → Prop) (o : Nat) (n : Nat) (sh : Nat → qC) (Rf : Nat → Nat → Option Nat) (I : Nat → Nat → Int32) (L : Nat → Nat → Int64) (post : Option Value → qS → Prop) (x1 : Int32) (x2 : Int32) : Prop :=
  vp_in x1 2000 ∧ ∀ I1 : Nat → Nat → Int32, q_u I (o + 57) (x1 : Int32).toNatClampNeg x2 = I1 → fModel_classes_116 D cA b E o n sh Rf I1 L post x1
set_option maxHeartbeats 4000000 in
set_option maxRecDepth 20000 in
theorem sModel_classes_109 {D : va_G} {cA : FieldType → ClassId} {b : Nat} {E : State → Prop} (o : Nat) (n : Nat) (sh : Nat → qC) (Rf : Nat → Nat → Option Nat) (I : Nat → Nat → Int32) (L : Nat → Nat → Int64) (post : Option Value → qS → Prop) (x1 : Int32) (x2 : Int32) (hok : q_ok (qGG D cA b E)) (hw : WfModel (qGG D cA b E) n sh Rf o) (H : fModel_classes_109 D cA b E o n sh Rf I L post x1 x2) : Ev (qGG D cA b E) mModel_classes 5 (0, 0) 109 [(0, .ref o), (1, .int x1), (2, .int x2)] [] (n, sh, Rf, I, L) post := by
  unfold fModel_classes_109 at H
  refine ev_aload_n dModel_classes_109 rfl ?_
  refine ev_getR hok fk_Model_604 (woModel hw) (fun _ _ _ => rfl) (wrModel_90 hw) dModel_classes_110 ?_
  refine ev_iload_n dModel_classes_113 rfl ?_
  refine ev_iload_n dModel_classes_114 rfl ?_
  obtain ⟨h2, H⟩ := H
  refine ev_iast hok (waModel_90 hw) h2 dModel_classes_115 ?_
  generalize eI1 : q_u I (o + 57) (x1 : Int32).toNatClampNeg x2 = I1
  have H := H I1 eI1
  exact ev_sub [(0, .ref o), (1, .int x1)] rfl (sModel_classes_116 o n sh Rf I1 L post x1 hok hw H)
def fModel_classes_76 (D : va_G) (cA : FieldType → ClassId) (b : Nat) (E : State → Prop) (o : Nat) (n : Nat) (sh : Nat → qC) (Rf : Nat → Nat → Option Nat) (I : Nat → Nat → Int32) (L : Nat → Nat → Int64) (post : Option Value → qS → Prop) (x1 : Int32) (x2 : Int32) : Prop :=
  vp_in (I o 106) 6 ∧ (((I (o + 28) ((I o 106) : Int32).toNatClampNeg) ≤ x2 → fModel_classes_109 D cA b E o n sh Rf I L post x1 x2) ∧ (¬ (I (o + 28) ((I o 106) : Int32).toNatClampNeg) ≤ x2 → Ev (qGG D cA b E) mModel_told 4 (0, 0) 0 (lv_args 0 [.ref o, .int ((I o 106)), .int ((5 + x2))]) [] (n, sh, Rf, I, L) (fun v τ => ∃ (r4 : Int32) (I5 : Nat → Nat → Int32) (L6 : Nat → Nat → Int64), v = some (.int r4) ∧ τ = (n, sh, Rf, I5, L6) ∧ ((¬ r4 = 0 → fModel_classes_109 D cA b E o n sh Rf I5 L6 post x1 x2) ∧ (r4 = 0 → Ev (qGG D cA b E) mModel_classes 5 (0, 0) 76 [(0, .ref o), (1, .int x1), (2, .int ((x2 + Int32.ofInt 1)))] [] (n, sh, Rf, I5, L6) post)))))
set_option maxHeartbeats 4000000 in
set_option maxRecDepth 20000 in
theorem sModel_classes_76 {D : va_G} {cA : FieldType → ClassId} {b : Nat} {E : State → Prop} (o : Nat) (n : Nat) (sh : Nat → qC) (Rf : Nat → Nat → Option Nat) (I : Nat → Nat → Int32) (L : Nat → Nat → Int64) (post : Option Value → qS → Prop) (x1 : Int32) (x2 : Int32) (hok : q_ok (qGG D cA b E)) (hw : WfModel (qGG D cA b E) n sh Rf o) (H : fModel_classes_76 D cA b E o n sh Rf I L post x1 x2) : Ev (qGG D cA b E) mModel_classes 5 (0, 0) 76 [(0, .ref o), (1, .int x1), (2, .int x2)] [] (n, sh, Rf, I, L) post := by
  unfold fModel_classes_76 at H
  refine ev_iload_n dModel_classes_76 rfl ?_
  refine ev_aload_n dModel_classes_77 rfl ?_
  refine ev_getR hok fk_Model_279 (woModel hw) (fun _ _ _ => rfl) (wrModel_39 hw) dModel_classes_78 ?_
  refine ev_aload_n dModel_classes_81 rfl ?_
  refine ev_getI hok fk_Model_516 (woModel hw) (fun _ _ _ => rfl) dModel_classes_82 ?_
  obtain ⟨h1, H⟩ := H
  refine ev_iald hok (waModel_39 hw) h1 dModel_classes_85 ?_
  refine ev_icmp_ge 109 dModel_classes_86 (by decide) (fun c2 => ?_) (fun c2 => ?_)
  · have H := H.1 c2
    exact ev_sub [(0, .ref o), (1, .int x1), (2, .int x2)] rfl (sModel_classes_109 o n sh Rf I L post x1 x2 hok hw H)
  · have H := H.2 c2
    refine ev_aload_n dModel_classes_89 rfl ?_
    refine ev_aload_n dModel_classes_90 rfl ?_
    refine ev_getI hok fk_Model_516 (woModel hw) (fun _ _ _ => rfl) dModel_classes_91 ?_
    refine ev_iconst (5) dModel_classes_94 (by decide) ?_
    refine ev_iload_n dModel_classes_95 rfl ?_
    refine ev_iadd dModel_classes_96 ?_
    refine ev_callV [.int ((I o 106)), .int ((5 + x2))] [] (B' := (0, 0)) (B'' := (0, 0)) hok mmModel_told mk_Model_384 (ci := 12) rfl rfl (woModel hw) rfl (Nat.le_of_ble_eq_true rfl) rfl (Nat.le_of_ble_eq_true rfl) dModel_classes_97 rfl (by decide) H (fun v τ p3 => ?_)
    obtain ⟨r4, I5, L6, rfl, rfl, H⟩ := p3
    refine ev_if_ne 109 dModel_classes_100 (by decide) (fun c7 => ?_) (fun c7 => ?_)
    · have H := H.1 c7
      exact ev_sub [(0, .ref o), (1, .int x1), (2, .int x2)] rfl (sModel_classes_109 o n sh Rf I5 L6 post x1 x2 hok hw H)
    · have H := H.2 c7
      refine ev_iinc dModel_classes_103 rfl (by decide) ?_
      refine ev_goto 76 dModel_classes_106 (by decide) ?_
      exact ev_sub [(0, .ref o), (1, .int x1), (2, .int ((x2 + Int32.ofInt 1)))] rfl H
def fModel_classes_61 (D : va_G) (cA : FieldType → ClassId) (b : Nat) (E : State → Prop) (o : Nat) (n : Nat) (sh : Nat → qC) (Rf : Nat → Nat → Option Nat) (I : Nat → Nat → Int32) (L : Nat → Nat → Int64) (post : Option Value → qS → Prop) (x1 : Int32) (z0 : Int32) : Prop :=
  ∀ I1 : Nat → Nat → Int32, q_u I o 56 z0 = I1 → vp_in x1 2000 ∧ ∀ I3 : Nat → Nat → Int32, q_u I1 o 53 (I1 (o + 55) (x1 : Int32).toNatClampNeg) = I3 → Ev (qGG D cA b E) mModel_classes 5 (0, 0) 76 [(0, .ref o), (1, .int x1), (2, .int 0)] [] (n, sh, Rf, I3, L) post
set_option maxHeartbeats 4000000 in
set_option maxRecDepth 20000 in
theorem sModel_classes_61 {D : va_G} {cA : FieldType → ClassId} {b : Nat} {E : State → Prop} (o : Nat) (n : Nat) (sh : Nat → qC) (Rf : Nat → Nat → Option Nat) (I : Nat → Nat → Int32) (L : Nat → Nat → Int64) (post : Option Value → qS → Prop) (x1 : Int32) (z0 : Int32) (hok : q_ok (qGG D cA b E)) (hw : WfModel (qGG D cA b E) n sh Rf o) (H : fModel_classes_61 D cA b E o n sh Rf I L post x1 z0) : Ev (qGG D cA b E) mModel_classes 5 (0, 0) 61 [(0, .ref o), (1, .int x1)] [.int z0, .ref o] (n, sh, Rf, I, L) post := by
  unfold fModel_classes_61 at H
  refine ev_putI hok fk_Model_372 (woModel hw) (fun _ _ _ => rfl) rfl rfl dModel_classes_61 ?_
  generalize eI1 : q_u I o 56 z0 = I1
  have H := H I1 eI1
  refine ev_aload_n dModel_classes_64 rfl ?_
  refine ev_aload_n dModel_classes_65 rfl ?_
  refine ev_getR hok fk_Model_531 (woModel hw) (fun _ _ _ => rfl) (wrModel_88 hw) dModel_classes_66 ?_
  refine ev_iload_n dModel_classes_69 rfl ?_
  obtain ⟨h2, H⟩ := H
  refine ev_iald hok (waModel_88 hw) h2 dModel_classes_70 ?_
  refine ev_putI hok fk_Model_363 (woModel hw) (fun _ _ _ => rfl) rfl rfl dModel_classes_71 ?_
  generalize eI3 : q_u I1 o 53 (I1 (o + 55) (x1 : Int32).toNatClampNeg) = I3
  have H := H I3 eI3
  refine ev_iconst (0) dModel_classes_74 (by decide) ?_
  refine ev_istore_n dModel_classes_75 (by decide) ?_
  exact ev_sub [(0, .ref o), (1, .int x1), (2, .int 0)] rfl H
def fModel_classes_2 (D : va_G) (cA : FieldType → ClassId) (b : Nat) (E : State → Prop) (o : Nat) (n : Nat) (sh : Nat → qC) (Rf : Nat → Nat → Option Nat) (I : Nat → Nat → Int32) (L : Nat → Nat → Int64) (post : Option Value → qS → Prop) (x1 : Int32) : Prop :=
  (((I o 104) ≤ x1 → post none (n, sh, Rf, I, L)) ∧ (¬ (I o 104) ≤ x1 → Ev (qGG D cA b E) mModel_waits 0 (0, 0) 0 (lv_args 0 [.ref o, .int x1]) [] (n, sh, Rf, I, L) (fun v τ => ∃ (r3 : Int32) (I4 : Nat → Nat → Int32) (L5 : Nat → Nat → Int64), v = some (.int r3) ∧ τ = (n, sh, Rf, I4, L5) ∧ ((¬ r3 = 0 → vp_in x1 2000 ∧ ∀ I8 : Nat → Nat → Int32, q_u I4 o 54 ((I4 o 57) - (I4 (o + 54) (x1 : Int32).toNatClampNeg)) = I8 → vp_in x1 2000 ∧ ∀ I10 : Nat → Nat → Int32, q_u I8 o 55 (I8 (o + 53) (x1 : Int32).toNatClampNeg) = I10 → vp_in x1 2000 ∧ (((I10 (o + 65) (x1 : Int32).toNatClampNeg) = 0 → fModel_classes_61 D cA b E o n sh Rf I10 L5 post x1 0) ∧ (¬ (I10 (o + 65) (x1 : Int32).toNatClampNeg) = 0 → fModel_classes_61 D cA b E o n sh Rf I10 L5 post x1 1))) ∧ (r3 = 0 → fModel_classes_116 D cA b E o n sh Rf I4 L5 post x1)))))
set_option maxHeartbeats 4000000 in
set_option maxRecDepth 20000 in
theorem sModel_classes_2 {D : va_G} {cA : FieldType → ClassId} {b : Nat} {E : State → Prop} (o : Nat) (n : Nat) (sh : Nat → qC) (Rf : Nat → Nat → Option Nat) (I : Nat → Nat → Int32) (L : Nat → Nat → Int64) (post : Option Value → qS → Prop) (x1 : Int32) (hok : q_ok (qGG D cA b E)) (hw : WfModel (qGG D cA b E) n sh Rf o) (H : fModel_classes_2 D cA b E o n sh Rf I L post x1) : Ev (qGG D cA b E) mModel_classes 5 (0, 0) 2 [(0, .ref o), (1, .int x1)] [] (n, sh, Rf, I, L) post := by
  unfold fModel_classes_2 at H
  refine ev_iload_n dModel_classes_2 rfl ?_
  refine ev_aload_n dModel_classes_3 rfl ?_
  refine ev_getI hok fk_Model_454 (woModel hw) (fun _ _ _ => rfl) dModel_classes_4 ?_
  refine ev_icmp_ge 122 dModel_classes_7 (by decide) (fun c1 => ?_) (fun c1 => ?_)
  · have H := H.1 c1
    exact ev_vret rfl dModel_classes_122 H
  · have H := H.2 c1
    refine ev_aload_n dModel_classes_10 rfl ?_
    refine ev_iload_n dModel_classes_11 rfl ?_
    refine ev_callV [.int x1] [] (B' := (0, 0)) (B'' := (0, 0)) hok mmModel_waits mk_Model_460 (ci := 12) rfl rfl (woModel hw) rfl (Nat.le_of_ble_eq_true rfl) rfl (Nat.le_of_ble_eq_true rfl) dModel_classes_12 rfl (by decide) H (fun v τ p2 => ?_)
    obtain ⟨r3, I4, L5, rfl, rfl, H⟩ := p2
    refine ev_if_ne 21 dModel_classes_15 (by decide) (fun c6 => ?_) (fun c6 => ?_)
    · have H := H.1 c6
      refine ev_aload_n dModel_classes_21 rfl ?_
      refine ev_aload_n dModel_classes_22 rfl ?_
      refine ev_getI hok fk_Model_348 (woModel hw) (fun _ _ _ => rfl) dModel_classes_23 ?_
      refine ev_aload_n dModel_classes_26 rfl ?_
      refine ev_getR hok fk_Model_528 (woModel hw) (fun _ _ _ => rfl) (wrModel_87 hw) dModel_classes_27 ?_
      refine ev_iload_n dModel_classes_30 rfl ?_
      obtain ⟨h7, H⟩ := H
      refine ev_iald hok (waModel_87 hw) h7 dModel_classes_31 ?_
      refine ev_isub dModel_classes_32 ?_
      refine ev_putI hok fk_Model_366 (woModel hw) (fun _ _ _ => rfl) rfl rfl dModel_classes_33 ?_
      generalize eI8 : q_u I4 o 54 ((I4 o 57) - (I4 (o + 54) (x1 : Int32).toNatClampNeg)) = I8
      have H := H I8 eI8
      refine ev_aload_n dModel_classes_36 rfl ?_
      refine ev_aload_n dModel_classes_37 rfl ?_
      refine ev_getR hok fk_Model_463 (woModel hw) (fun _ _ _ => rfl) (wrModel_86 hw) dModel_classes_38 ?_
      refine ev_iload_n dModel_classes_41 rfl ?_
      obtain ⟨h9, H⟩ := H
      refine ev_iald hok (waModel_86 hw) h9 dModel_classes_42 ?_
      refine ev_putI hok fk_Model_369 (woModel hw) (fun _ _ _ => rfl) rfl rfl dModel_classes_43 ?_
      generalize eI10 : q_u I8 o 55 (I8 (o + 53) (x1 : Int32).toNatClampNeg) = I10
      have H := H I10 eI10
      refine ev_aload_n dModel_classes_46 rfl ?_
      refine ev_aload_n dModel_classes_47 rfl ?_
      refine ev_getR hok fk_Model_534 (woModel hw) (fun _ _ _ => rfl) (wrModel_98 hw) dModel_classes_48 ?_
      refine ev_iload_n dModel_classes_51 rfl ?_
      obtain ⟨h11, H⟩ := H
      refine ev_zald hok (waModel_98 hw) h11 dModel_classes_52 ?_
      refine ev_if_eq 60 dModel_classes_53 (by decide) (fun c12 => ?_) (fun c12 => ?_)
      · have H := H.1 c12
        refine ev_iconst (0) dModel_classes_60 (by decide) ?_
        exact ev_sub [(0, .ref o), (1, .int x1)] rfl (sModel_classes_61 o n sh Rf I10 L5 post x1 0 hok hw H)
      · have H := H.2 c12
        refine ev_iconst (1) dModel_classes_56 (by decide) ?_
        refine ev_goto 61 dModel_classes_57 (by decide) ?_
        exact ev_sub [(0, .ref o), (1, .int x1)] rfl (sModel_classes_61 o n sh Rf I10 L5 post x1 1 hok hw H)
    · have H := H.2 c6
      refine ev_goto 116 dModel_classes_18 (by decide) ?_
      exact ev_sub [(0, .ref o), (1, .int x1)] rfl (sModel_classes_116 o n sh Rf I4 L5 post x1 hok hw H)
def fModel_classes_0 (D : va_G) (cA : FieldType → ClassId) (b : Nat) (E : State → Prop) (o : Nat) (n : Nat) (sh : Nat → qC) (Rf : Nat → Nat → Option Nat) (I : Nat → Nat → Int32) (L : Nat → Nat → Int64) (post : Option Value → qS → Prop)  : Prop :=
  Ev (qGG D cA b E) mModel_classes 5 (0, 0) 2 [(0, .ref o), (1, .int 0)] [] (n, sh, Rf, I, L) post
set_option maxHeartbeats 4000000 in
set_option maxRecDepth 20000 in
theorem sModel_classes_0 {D : va_G} {cA : FieldType → ClassId} {b : Nat} {E : State → Prop} (o : Nat) (n : Nat) (sh : Nat → qC) (Rf : Nat → Nat → Option Nat) (I : Nat → Nat → Int32) (L : Nat → Nat → Int64) (post : Option Value → qS → Prop)  (hok : q_ok (qGG D cA b E)) (hw : WfModel (qGG D cA b E) n sh Rf o) (H : fModel_classes_0 D cA b E o n sh Rf I L post ) : Ev (qGG D cA b E) mModel_classes 5 (0, 0) 0 [(0, .ref o)] [] (n, sh, Rf, I, L) post := by
  unfold fModel_classes_0 at H
  refine ev_iconst (0) dModel_classes_0 (by decide) ?_
  refine ev_istore_n dModel_classes_1 (by decide) ?_
  exact ev_sub [(0, .ref o), (1, .int 0)] rfl H
def fModel_e_48 (D : va_G) (cA : FieldType → ClassId) (b : Nat) (E : State → Prop) (o : Nat) (n : Nat) (sh : Nat → qC) (Rf : Nat → Nat → Option Nat) (I : Nat → Nat → Int32) (L : Nat → Nat → Int64) (post : Option Value → qS → Prop) (x1 : Int32) (z0 : Int32) : Prop :=
  Ev (qGG D cA b E) mModel_e 5 (0, 0) 19 [(0, .ref o), (1, .int z0)] [] (n, sh, Rf, I, L) post
set_option maxHeartbeats 4000000 in
set_option maxRecDepth 20000 in
theorem sModel_e_48 {D : va_G} {cA : FieldType → ClassId} {b : Nat} {E : State → Prop} (o : Nat) (n : Nat) (sh : Nat → qC) (Rf : Nat → Nat → Option Nat) (I : Nat → Nat → Int32) (L : Nat → Nat → Int64) (post : Option Value → qS → Prop) (x1 : Int32) (z0 : Int32) (hok : q_ok (qGG D cA b E)) (hw : WfModel (qGG D cA b E) n sh Rf o) (H : fModel_e_48 D cA b E o n sh Rf I L post x1 z0) : Ev (qGG D cA b E) mModel_e 5 (0, 0) 48 [(0, .ref o), (1, .int x1)] [.int z0] (n, sh, Rf, I, L) post := by
  unfold fModel_e_48 at H
  refine ev_istore_n dModel_e_48 (by decide) ?_
  refine ev_goto 19 dModel_e_49 (by decide) ?_
  exact ev_sub [(0, .ref o), (1, .int z0)] rfl H
def fModel_e_19 (D : va_G) (cA : FieldType → ClassId) (b : Nat) (E : State → Prop) (o : Nat) (n : Nat) (sh : Nat → qC) (Rf : Nat → Nat → Option Nat) (I : Nat → Nat → Int32) (L : Nat → Nat → Int64) (post : Option Value → qS → Prop) (x1 : Int32) : Prop :=
  Ev (qGG D cA b E) mModel_isGood 0 (0, 0) 0 (lv_args 0 [.ref o]) [] (n, sh, Rf, I, L) (fun v τ => ∃ (r2 : Int32) (I3 : Nat → Nat → Int32) (L4 : Nat → Nat → Int64), v = some (.int r2) ∧ τ = (n, sh, Rf, I3, L4) ∧ ((r2 = 0 → post none (n, sh, Rf, I3, L4)) ∧ (¬ r2 = 0 → (((I3 o 48) ≤ 0 → post none (n, sh, Rf, I3, L4)) ∧ (¬ (I3 o 48) ≤ 0 → ((x1 = 0 → Ev (qGG D cA b E) mModel_behind 4 (0, 0) 0 (lv_args 0 [.ref o]) [] (n, sh, Rf, I3, L4) (fun v τ => ∃ (r9 : Int32) (I10 : Nat → Nat → Int32) (L11 : Nat → Nat → Int64), v = some (.int r9) ∧ τ = (n, sh, Rf, I10, L11) ∧ fModel_e_48 D cA b E o n sh Rf I10 L11 post x1 r9)) ∧ (¬ x1 = 0 → Ev (qGG D cA b E) mModel_unit 3 (0, 0) 0 (lv_args 0 [.ref o]) [] (n, sh, Rf, I3, L4) (fun v τ => ∃ (r13 : Int32) (I14 : Nat → Nat → Int32) (L15 : Nat → Nat → Int64), v = some (.int r13) ∧ τ = (n, sh, Rf, I14, L15) ∧ fModel_e_48 D cA b E o n sh Rf I14 L15 post x1 r13))))))))
set_option maxHeartbeats 4000000 in
set_option maxRecDepth 20000 in
theorem sModel_e_19 {D : va_G} {cA : FieldType → ClassId} {b : Nat} {E : State → Prop} (o : Nat) (n : Nat) (sh : Nat → qC) (Rf : Nat → Nat → Option Nat) (I : Nat → Nat → Int32) (L : Nat → Nat → Int64) (post : Option Value → qS → Prop) (x1 : Int32) (hok : q_ok (qGG D cA b E)) (hw : WfModel (qGG D cA b E) n sh Rf o) (H : fModel_e_19 D cA b E o n sh Rf I L post x1) : Ev (qGG D cA b E) mModel_e 5 (0, 0) 19 [(0, .ref o), (1, .int x1)] [] (n, sh, Rf, I, L) post := by
  unfold fModel_e_19 at H
  refine ev_aload_n dModel_e_19 rfl ?_
  refine ev_callV [] [] (B' := (0, 0)) (B'' := (0, 0)) hok mmModel_isGood mk_Model_126 (ci := 12) rfl rfl (woModel hw) rfl (Nat.le_of_ble_eq_true rfl) rfl (Nat.le_of_ble_eq_true rfl) dModel_e_20 rfl (by decide) H (fun v τ p1 => ?_)
  obtain ⟨r2, I3, L4, rfl, rfl, H⟩ := p1
  refine ev_if_eq 52 dModel_e_23 (by decide) (fun c5 => ?_) (fun c5 => ?_)
  · have H := H.1 c5
    exact ev_vret rfl dModel_e_52 H
  · have H := H.2 c5
    refine ev_aload_n dModel_e_26 rfl ?_
    refine ev_getI hok fk_Model_318 (woModel hw) (fun _ _ _ => rfl) dModel_e_27 ?_
    refine ev_if_le 52 dModel_e_30 (by decide) (fun c6 => ?_) (fun c6 => ?_)
    · have H := H.1 c6
      exact ev_vret rfl dModel_e_52 H
    · have H := H.2 c6
      refine ev_iload_n dModel_e_33 rfl ?_
      refine ev_if_eq 44 dModel_e_34 (by decide) (fun c7 => ?_) (fun c7 => ?_)
      · have H := H.1 c7
        refine ev_aload_n dModel_e_44 rfl ?_
        refine ev_callV [] [] (B' := (0, 0)) (B'' := (0, 0)) hok mmModel_behind mk_Model_333 (ci := 12) rfl rfl (woModel hw) rfl (Nat.le_of_ble_eq_true rfl) rfl (Nat.le_of_ble_eq_true rfl) dModel_e_45 rfl (by decide) H (fun v τ p8 => ?_)
        obtain ⟨r9, I10, L11, rfl, rfl, H⟩ := p8
        exact ev_sub [(0, .ref o), (1, .int x1)] rfl (sModel_e_48 o n sh Rf I10 L11 post x1 r9 hok hw H)
      · have H := H.2 c7
        refine ev_aload_n dModel_e_37 rfl ?_
        refine ev_callV [] [] (B' := (0, 0)) (B'' := (0, 0)) hok mmModel_unit mk_Model_330 (ci := 12) rfl rfl (woModel hw) rfl (Nat.le_of_ble_eq_true rfl) rfl (Nat.le_of_ble_eq_true rfl) dModel_e_38 rfl (by decide) H (fun v τ p12 => ?_)
        obtain ⟨r13, I14, L15, rfl, rfl, H⟩ := p12
        refine ev_goto 48 dModel_e_41 (by decide) ?_
        exact ev_sub [(0, .ref o), (1, .int x1)] rfl (sModel_e_48 o n sh Rf I14 L15 post x1 r13 hok hw H)
def fModel_e_0 (D : va_G) (cA : FieldType → ClassId) (b : Nat) (E : State → Prop) (o : Nat) (n : Nat) (sh : Nat → qC) (Rf : Nat → Nat → Option Nat) (I : Nat → Nat → Int32) (L : Nat → Nat → Int64) (post : Option Value → qS → Prop)  : Prop :=
  ∀ I1 : Nat → Nat → Int32, q_u I o 48 0 = I1 → ∀ I2 : Nat → Nat → Int32, q_u I1 o 47 0 = I2 → Ev (qGG D cA b E) mModel_pile 0 (0, 0) 0 (lv_args 0 [.ref o, .int 8, .int 0]) [] (n, sh, Rf, I2, L) (fun v τ => ∃ (I5 : Nat → Nat → Int32) (L6 : Nat → Nat → Int64), v = none ∧ τ = (n, sh, Rf, I5, L6) ∧ Ev (qGG D cA b E) mModel_e 5 (0, 0) 19 [(0, .ref o), (1, .int 1)] [] (n, sh, Rf, I5, L6) post)
set_option maxHeartbeats 4000000 in
set_option maxRecDepth 20000 in
theorem sModel_e_0 {D : va_G} {cA : FieldType → ClassId} {b : Nat} {E : State → Prop} (o : Nat) (n : Nat) (sh : Nat → qC) (Rf : Nat → Nat → Option Nat) (I : Nat → Nat → Int32) (L : Nat → Nat → Int64) (post : Option Value → qS → Prop)  (hok : q_ok (qGG D cA b E)) (hw : WfModel (qGG D cA b E) n sh Rf o) (H : fModel_e_0 D cA b E o n sh Rf I L post ) : Ev (qGG D cA b E) mModel_e 5 (0, 0) 0 [(0, .ref o)] [] (n, sh, Rf, I, L) post := by
  unfold fModel_e_0 at H
  refine ev_aload_n dModel_e_0 rfl ?_
  refine ev_iconst (0) dModel_e_1 (by decide) ?_
  refine ev_putI hok fk_Model_318 (woModel hw) (fun _ _ _ => rfl) rfl rfl dModel_e_2 ?_
  generalize eI1 : q_u I o 48 0 = I1
  have H := H I1 eI1
  refine ev_aload_n dModel_e_5 rfl ?_
  refine ev_iconst (0) dModel_e_6 (by decide) ?_
  refine ev_putI hok fk_Model_324 (woModel hw) (fun _ _ _ => rfl) rfl rfl dModel_e_7 ?_
  generalize eI2 : q_u I1 o 47 0 = I2
  have H := H I2 eI2
  refine ev_aload_n dModel_e_10 rfl ?_
  refine ev_bipush (8) dModel_e_11 (by decide) ?_
  refine ev_iconst (0) dModel_e_13 (by decide) ?_
  refine ev_callV [.int 8, .int 0] [] (B' := (0, 0)) (B'' := (0, 0)) hok mmModel_pile mk_Model_327 (ci := 12) rfl rfl (woModel hw) rfl (Nat.le_of_ble_eq_true rfl) rfl (Nat.le_of_ble_eq_true rfl) dModel_e_14 rfl (by decide) H (fun v τ p3 => ?_)
  obtain ⟨I5, L6, rfl, rfl, H⟩ := p3
  refine ev_iconst (1) dModel_e_17 (by decide) ?_
  refine ev_istore_n dModel_e_18 (by decide) ?_
  exact ev_sub [(0, .ref o), (1, .int 1)] rfl H
def fModel_readFort_0 (D : va_G) (cA : FieldType → ClassId) (b : Nat) (E : State → Prop) (o : Nat) (n : Nat) (sh : Nat → qC) (Rf : Nat → Nat → Option Nat) (I : Nat → Nat → Int32) (L : Nat → Nat → Int64) (post : Option Value → qS → Prop)  : Prop :=
  vp_in (I o 35) 2 ∧ Ev (qGG D cA b E) mModel_newName 4 (0, 0) 0 (lv_args 0 [.ref o]) [] (n, sh, Rf, I, L) (fun v τ => ∃ (r3 : Int64) (I4 : Nat → Nat → Int32) (L5 : Nat → Nat → Int64), v = some (.long r3) ∧ τ = (n, sh, Rf, I4, L5) ∧ vp_in ((3 * (I o 35)) + (I (o + 7) ((I o 35) : Int32).toNatClampNeg)) 6 ∧ ∀ L6 : Nat → Nat → Int64, q_u L5 (o + 3) (((3 * (I o 35)) + (I (o + 7) ((I o 35) : Int32).toNatClampNeg)) : Int32).toNatClampNeg r3 = L6 → Ev (qGG D cA b E) mModel_point 4 (0, 0) 0 (lv_args 0 [.ref o]) [] (n, sh, Rf, I4, L6) (fun v τ => ∃ (r9 : Int32) (I10 : Nat → Nat → Int32) (L11 : Nat → Nat → Int64), v = some (.int r9) ∧ τ = (n, sh, Rf, I10, L11) ∧ vp_in ((3 * (I o 35)) + (I (o + 7) ((I o 35) : Int32).toNatClampNeg)) 6 ∧ ∀ I12 : Nat → Nat → Int32, q_u I10 (o + 13) (((3 * (I o 35)) + (I (o + 7) ((I o 35) : Int32).toNatClampNeg)) : Int32).toNatClampNeg r9 = I12 → Ev (qGG D cA b E) mModel_isWord 0 (0, 0) 0 (lv_args 0 [.ref o, .long 1700885619]) [] (n, sh, Rf, I12, L11) (fun v τ => ∃ (r15 : Int32) (I16 : Nat → Nat → Int32) (L17 : Nat → Nat → Int64), v = some (.int r15) ∧ τ = (n, sh, Rf, I16, L17) ∧ Ev (qGG D cA b E) mModel_must 3 (0, 0) 0 (lv_args 0 [.ref o, .int r15]) [] (n, sh, Rf, I16, L17) (fun v τ => ∃ (I20 : Nat → Nat → Int32) (L21 : Nat → Nat → Int64), v = none ∧ τ = (n, sh, Rf, I20, L21) ∧ Ev (qGG D cA b E) mModel_numeral 3 (0, 0) 0 (lv_args 0 [.ref o, .int 0, .int 999]) [] (n, sh, Rf, I20, L21) (fun v τ => ∃ (r23 : Int32) (I24 : Nat → Nat → Int32) (L25 : Nat → Nat → Int64), v = some (.int r23) ∧ τ = (n, sh, Rf, I24, L25) ∧ vp_in ((3 * (I o 35)) + (I (o + 7) ((I o 35) : Int32).toNatClampNeg)) 6 ∧ ∀ I26 : Nat → Nat → Int32, q_u I24 (o + 14) (((3 * (I o 35)) + (I (o + 7) ((I o 35) : Int32).toNatClampNeg)) : Int32).toNatClampNeg r23 = I26 → Ev (qGG D cA b E) mModel_isWord 0 (0, 0) 0 (lv_args 0 [.ref o, .long 495874699877]) [] (n, sh, Rf, I26, L25) (fun v τ => ∃ (r29 : Int32) (I30 : Nat → Nat → Int32) (L31 : Nat → Nat → Int64), v = some (.int r29) ∧ τ = (n, sh, Rf, I30, L31) ∧ Ev (qGG D cA b E) mModel_must 3 (0, 0) 0 (lv_args 0 [.ref o, .int r29]) [] (n, sh, Rf, I30, L31) (fun v τ => ∃ (I34 : Nat → Nat → Int32) (L35 : Nat → Nat → Int64), v = none ∧ τ = (n, sh, Rf, I34, L35) ∧ Ev (qGG D cA b E) mModel_numeral 3 (0, 0) 0 (lv_args 0 [.ref o, .int 0, .int 9999]) [] (n, sh, Rf, I34, L35) (fun v τ => ∃ (r37 : Int32) (I38 : Nat → Nat → Int32) (L39 : Nat → Nat → Int64), v = some (.int r37) ∧ τ = (n, sh, Rf, I38, L39) ∧ vp_in ((3 * (I o 35)) + (I (o + 7) ((I o 35) : Int32).toNatClampNeg)) 6 ∧ ∀ I40 : Nat → Nat → Int32, q_u I38 (o + 15) (((3 * (I o 35)) + (I (o + 7) ((I o 35) : Int32).toNatClampNeg)) : Int32).toNatClampNeg r37 = I40 → Ev (qGG D cA b E) mModel_isGood 0 (0, 0) 0 (lv_args 0 [.ref o]) [] (n, sh, Rf, I40, L39) (fun v τ => ∃ (r43 : Int32) (I44 : Nat → Nat → Int32) (L45 : Nat → Nat → Int64), v = some (.int r43) ∧ τ = (n, sh, Rf, I44, L45) ∧ ((r43 = 0 → post none (n, sh, Rf, I44, L45)) ∧ (¬ r43 = 0 → vp_in (I44 o 35) 2 ∧ vp_in (I44 o 35) 2 ∧ ∀ I48 : Nat → Nat → Int32, q_u I44 (o + 7) ((I44 o 35) : Int32).toNatClampNeg ((I44 (o + 7) ((I44 o 35) : Int32).toNatClampNeg) + 1) = I48 → post none (n, sh, Rf, I48, L45))))))))))))
set_option maxHeartbeats 4000000 in
set_option maxRecDepth 20000 in
theorem sModel_readFort_0 {D : va_G} {cA : FieldType → ClassId} {b : Nat} {E : State → Prop} (o : Nat) (n : Nat) (sh : Nat → qC) (Rf : Nat → Nat → Option Nat) (I : Nat → Nat → Int32) (L : Nat → Nat → Int64) (post : Option Value → qS → Prop)  (hok : q_ok (qGG D cA b E)) (hw : WfModel (qGG D cA b E) n sh Rf o) (H : fModel_readFort_0 D cA b E o n sh Rf I L post ) : Ev (qGG D cA b E) mModel_readFort 5 (0, 0) 0 [(0, .ref o)] [] (n, sh, Rf, I, L) post := by
  unfold fModel_readFort_0 at H
  refine ev_iconst (3) dModel_readFort_0 (by decide) ?_
  refine ev_aload_n dModel_readFort_1 rfl ?_
  refine ev_getI hok fk_Model_150 (woModel hw) (fun _ _ _ => rfl) dModel_readFort_2 ?_
  refine ev_imul dModel_readFort_5 ?_
  refine ev_aload_n dModel_readFort_6 rfl ?_
  refine ev_getR hok fk_Model_157 (woModel hw) (fun _ _ _ => rfl) (wrModel_16 hw) dModel_readFort_7 ?_
  refine ev_aload_n dModel_readFort_10 rfl ?_
  refine ev_getI hok fk_Model_150 (woModel hw) (fun _ _ _ => rfl) dModel_readFort_11 ?_
  obtain ⟨h1, H⟩ := H
  refine ev_iald hok (waModel_16 hw) h1 dModel_readFort_14 ?_
  refine ev_iadd dModel_readFort_15 ?_
  refine ev_istore_n dModel_readFort_16 (by decide) ?_
  refine ev_aload_n dModel_readFort_17 rfl ?_
  refine ev_getR hok fk_Model_216 (woModel hw) (fun _ _ _ => rfl) (wrModel_12 hw) dModel_readFort_18 ?_
  refine ev_iload_n dModel_readFort_21 rfl ?_
  refine ev_aload_n dModel_readFort_22 rfl ?_
  refine ev_callV [] [.int (((3 * (I o 35)) + (I (o + 7) ((I o 35) : Int32).toNatClampNeg))), .ref ((o + 3))] (B' := (0, 0)) (B'' := (0, 0)) hok mmModel_newName mk_Model_229 (ci := 12) rfl rfl (woModel hw) rfl (Nat.le_of_ble_eq_true rfl) rfl (Nat.le_of_ble_eq_true rfl) dModel_readFort_23 rfl (by decide) H (fun v τ p2 => ?_)
  obtain ⟨r3, I4, L5, rfl, rfl, H⟩ := p2
  obtain ⟨h7, H⟩ := H
  refine ev_last hok (waModel_12 hw) h7 dModel_readFort_26 ?_
  generalize eL6 : q_u L5 (o + 3) (((3 * (I o 35)) + (I (o + 7) ((I o 35) : Int32).toNatClampNeg)) : Int32).toNatClampNeg r3 = L6
  have H := H L6 eL6
  refine ev_aload_n dModel_readFort_27 rfl ?_
  refine ev_getR hok fk_Model_233 (woModel hw) (fun _ _ _ => rfl) (wrModel_22 hw) dModel_readFort_28 ?_
  refine ev_iload_n dModel_readFort_31 rfl ?_
  refine ev_aload_n dModel_readFort_32 rfl ?_
  refine ev_callV [] [.int (((3 * (I o 35)) + (I (o + 7) ((I o 35) : Int32).toNatClampNeg))), .ref ((o + 13))] (B' := (0, 0)) (B'' := (0, 0)) hok mmModel_point mk_Model_202 (ci := 12) rfl rfl (woModel hw) rfl (Nat.le_of_ble_eq_true rfl) rfl (Nat.le_of_ble_eq_true rfl) dModel_readFort_33 rfl (by decide) H (fun v τ p8 => ?_)
  obtain ⟨r9, I10, L11, rfl, rfl, H⟩ := p8
  obtain ⟨h13, H⟩ := H
  refine ev_iast hok (waModel_22 hw) h13 dModel_readFort_36 ?_
  generalize eI12 : q_u I10 (o + 13) (((3 * (I o 35)) + (I (o + 7) ((I o 35) : Int32).toNatClampNeg)) : Int32).toNatClampNeg r9 = I12
  have H := H I12 eI12
  refine ev_aload_n dModel_readFort_37 rfl ?_
  refine ev_aload_n dModel_readFort_38 rfl ?_
  refine ev_ldc2 (1700885619) dModel_readFort_39 (q_t6 235 (by decide +kernel) rfl) ?_
  refine ev_callV [.long 1700885619] [.ref o] (B' := (0, 0)) (B'' := (0, 0)) hok mmModel_isWord mk_Model_178 (ci := 12) rfl rfl (woModel hw) rfl (Nat.le_of_ble_eq_true rfl) rfl (Nat.le_of_ble_eq_true rfl) dModel_readFort_42 rfl (by decide) H (fun v τ p14 => ?_)
  obtain ⟨r15, I16, L17, rfl, rfl, H⟩ := p14
  refine ev_callV [.int r15] [] (B' := (0, 0)) (B'' := (0, 0)) hok mmModel_must mk_Model_196 (ci := 12) rfl rfl (woModel hw) rfl (Nat.le_of_ble_eq_true rfl) rfl (Nat.le_of_ble_eq_true rfl) dModel_readFort_45 rfl (by decide) H (fun v τ p18 => ?_)
  obtain ⟨I20, L21, rfl, rfl, H⟩ := p18
  refine ev_aload_n dModel_readFort_48 rfl ?_
  refine ev_getR hok fk_Model_236 (woModel hw) (fun _ _ _ => rfl) (wrModel_23 hw) dModel_readFort_49 ?_
  refine ev_iload_n dModel_readFort_52 rfl ?_
  refine ev_aload_n dModel_readFort_53 rfl ?_
  refine ev_iconst (0) dModel_readFort_54 (by decide) ?_
  refine ev_sipush (999) dModel_readFort_55 (by decide) ?_
  refine ev_callV [.int 0, .int 999] [.int (((3 * (I o 35)) + (I (o + 7) ((I o 35) : Int32).toNatClampNeg))), .ref ((o + 14))] (B' := (0, 0)) (B'' := (0, 0)) hok mmModel_numeral mk_Model_212 (ci := 12) rfl rfl (woModel hw) rfl (Nat.le_of_ble_eq_true rfl) rfl (Nat.le_of_ble_eq_true rfl) dModel_readFort_58 rfl (by decide) H (fun v τ p22 => ?_)
  obtain ⟨r23, I24, L25, rfl, rfl, H⟩ := p22
  obtain ⟨h27, H⟩ := H
  refine ev_iast hok (waModel_23 hw) h27 dModel_readFort_61 ?_
  generalize eI26 : q_u I24 (o + 14) (((3 * (I o 35)) + (I (o + 7) ((I o 35) : Int32).toNatClampNeg)) : Int32).toNatClampNeg r23 = I26
  have H := H I26 eI26
  refine ev_aload_n dModel_readFort_62 rfl ?_
  refine ev_aload_n dModel_readFort_63 rfl ?_
  refine ev_ldc2 (495874699877) dModel_readFort_64 (q_t6 236 (by decide +kernel) rfl) ?_
  refine ev_callV [.long 495874699877] [.ref o] (B' := (0, 0)) (B'' := (0, 0)) hok mmModel_isWord mk_Model_178 (ci := 12) rfl rfl (woModel hw) rfl (Nat.le_of_ble_eq_true rfl) rfl (Nat.le_of_ble_eq_true rfl) dModel_readFort_67 rfl (by decide) H (fun v τ p28 => ?_)
  obtain ⟨r29, I30, L31, rfl, rfl, H⟩ := p28
  refine ev_callV [.int r29] [] (B' := (0, 0)) (B'' := (0, 0)) hok mmModel_must mk_Model_196 (ci := 12) rfl rfl (woModel hw) rfl (Nat.le_of_ble_eq_true rfl) rfl (Nat.le_of_ble_eq_true rfl) dModel_readFort_70 rfl (by decide) H (fun v τ p32 => ?_)
  obtain ⟨I34, L35, rfl, rfl, H⟩ := p32
  refine ev_aload_n dModel_readFort_73 rfl ?_
  refine ev_getR hok fk_Model_239 (woModel hw) (fun _ _ _ => rfl) (wrModel_24 hw) dModel_readFort_74 ?_
  refine ev_iload_n dModel_readFort_77 rfl ?_
  refine ev_aload_n dModel_readFort_78 rfl ?_
  refine ev_iconst (0) dModel_readFort_79 (by decide) ?_
  refine ev_sipush (9999) dModel_readFort_80 (by decide) ?_
  refine ev_callV [.int 0, .int 9999] [.int (((3 * (I o 35)) + (I (o + 7) ((I o 35) : Int32).toNatClampNeg))), .ref ((o + 15))] (B' := (0, 0)) (B'' := (0, 0)) hok mmModel_numeral mk_Model_212 (ci := 12) rfl rfl (woModel hw) rfl (Nat.le_of_ble_eq_true rfl) rfl (Nat.le_of_ble_eq_true rfl) dModel_readFort_83 rfl (by decide) H (fun v τ p36 => ?_)
  obtain ⟨r37, I38, L39, rfl, rfl, H⟩ := p36
  obtain ⟨h41, H⟩ := H
  refine ev_iast hok (waModel_24 hw) h41 dModel_readFort_86 ?_
  generalize eI40 : q_u I38 (o + 15) (((3 * (I o 35)) + (I (o + 7) ((I o 35) : Int32).toNatClampNeg)) : Int32).toNatClampNeg r37 = I40
  have H := H I40 eI40
  refine ev_aload_n dModel_readFort_87 rfl ?_
  refine ev_callV [] [] (B' := (0, 0)) (B'' := (0, 0)) hok mmModel_isGood mk_Model_126 (ci := 12) rfl rfl (woModel hw) rfl (Nat.le_of_ble_eq_true rfl) rfl (Nat.le_of_ble_eq_true rfl) dModel_readFort_88 rfl (by decide) H (fun v τ p42 => ?_)
  obtain ⟨r43, I44, L45, rfl, rfl, H⟩ := p42
  refine ev_if_eq 107 dModel_readFort_91 (by decide) (fun c46 => ?_) (fun c46 => ?_)
  · have H := H.1 c46
    exact ev_vret rfl dModel_readFort_107 H
  · have H := H.2 c46
    refine ev_aload_n dModel_readFort_94 rfl ?_
    refine ev_getR hok fk_Model_157 (woModel hw) (fun _ _ _ => rfl) (wrModel_16 hw) dModel_readFort_95 ?_
    refine ev_aload_n dModel_readFort_98 rfl ?_
    refine ev_getI hok fk_Model_150 (woModel hw) (fun _ _ _ => rfl) dModel_readFort_99 ?_
    refine ev_dup2_11 dModel_readFort_102 rfl rfl ?_
    obtain ⟨h47, H⟩ := H
    refine ev_iald hok (waModel_16 hw) h47 dModel_readFort_103 ?_
    refine ev_iconst (1) dModel_readFort_104 (by decide) ?_
    refine ev_iadd dModel_readFort_105 ?_
    obtain ⟨h49, H⟩ := H
    refine ev_iast hok (waModel_16 hw) h49 dModel_readFort_106 ?_
    generalize eI48 : q_u I44 (o + 7) ((I44 o 35) : Int32).toNatClampNeg ((I44 (o + 7) ((I44 o 35) : Int32).toNatClampNeg) + 1) = I48
    have H := H I48 eI48
    exact ev_vret rfl dModel_readFort_107 H
def fModel_readPan_183 (D : va_G) (cA : FieldType → ClassId) (b : Nat) (E : State → Prop) (o : Nat) (n : Nat) (sh : Nat → qC) (Rf : Nat → Nat → Option Nat) (I : Nat → Nat → Int32) (L : Nat → Nat → Int64) (post : Option Value → qS → Prop) (x1 : Int32) (x2 : Int32) : Prop :=
  Ev (qGG D cA b E) mModel_isGood 0 (0, 0) 0 (lv_args 0 [.ref o]) [] (n, sh, Rf, I, L) (fun v τ => ∃ (r2 : Int32) (I3 : Nat → Nat → Int32) (L4 : Nat → Nat → Int64), v = some (.int r2) ∧ τ = (n, sh, Rf, I3, L4) ∧ ((r2 = 0 → post none (n, sh, Rf, I3, L4)) ∧ (¬ r2 = 0 → vp_in (I3 o 35) 2 ∧ vp_in (I3 o 35) 2 ∧ ∀ I7 : Nat → Nat → Int32, q_u I3 (o + 8) ((I3 o 35) : Int32).toNatClampNeg ((I3 (o + 8) ((I3 o 35) : Int32).toNatClampNeg) + 1) = I7 → post none (n, sh, Rf, I7, L4))))
set_option maxHeartbeats 4000000 in
set_option maxRecDepth 20000 in
theorem sModel_readPan_183 {D : va_G} {cA : FieldType → ClassId} {b : Nat} {E : State → Prop} (o : Nat) (n : Nat) (sh : Nat → qC) (Rf : Nat → Nat → Option Nat) (I : Nat → Nat → Int32) (L : Nat → Nat → Int64) (post : Option Value → qS → Prop) (x1 : Int32) (x2 : Int32) (hok : q_ok (qGG D cA b E)) (hw : WfModel (qGG D cA b E) n sh Rf o) (H : fModel_readPan_183 D cA b E o n sh Rf I L post x1 x2) : Ev (qGG D cA b E) mModel_readPan 5 (0, 0) 183 [(0, .ref o), (1, .int x1), (2, .int x2)] [] (n, sh, Rf, I, L) post := by
  unfold fModel_readPan_183 at H
  refine ev_aload_n dModel_readPan_183 rfl ?_
  refine ev_callV [] [] (B' := (0, 0)) (B'' := (0, 0)) hok mmModel_isGood mk_Model_126 (ci := 12) rfl rfl (woModel hw) rfl (Nat.le_of_ble_eq_true rfl) rfl (Nat.le_of_ble_eq_true rfl) dModel_readPan_184 rfl (by decide) H (fun v τ p1 => ?_)
  obtain ⟨r2, I3, L4, rfl, rfl, H⟩ := p1
  refine ev_if_eq 203 dModel_readPan_187 (by decide) (fun c5 => ?_) (fun c5 => ?_)
  · have H := H.1 c5
    exact ev_vret rfl dModel_readPan_203 H
  · have H := H.2 c5
    refine ev_aload_n dModel_readPan_190 rfl ?_
    refine ev_getR hok fk_Model_160 (woModel hw) (fun _ _ _ => rfl) (wrModel_17 hw) dModel_readPan_191 ?_
    refine ev_aload_n dModel_readPan_194 rfl ?_
    refine ev_getI hok fk_Model_150 (woModel hw) (fun _ _ _ => rfl) dModel_readPan_195 ?_
    refine ev_dup2_11 dModel_readPan_198 rfl rfl ?_
    obtain ⟨h6, H⟩ := H
    refine ev_iald hok (waModel_17 hw) h6 dModel_readPan_199 ?_
    refine ev_iconst (1) dModel_readPan_200 (by decide) ?_
    refine ev_iadd dModel_readPan_201 ?_
    obtain ⟨h8, H⟩ := H
    refine ev_iast hok (waModel_17 hw) h8 dModel_readPan_202 ?_
    generalize eI7 : q_u I3 (o + 8) ((I3 o 35) : Int32).toNatClampNeg ((I3 (o + 8) ((I3 o 35) : Int32).toNatClampNeg) + 1) = I7
    have H := H I7 eI7
    exact ev_vret rfl dModel_readPan_203 H
def fModel_readPan_179 (D : va_G) (cA : FieldType → ClassId) (b : Nat) (E : State → Prop) (o : Nat) (n : Nat) (sh : Nat → qC) (Rf : Nat → Nat → Option Nat) (I : Nat → Nat → Int32) (L : Nat → Nat → Int64) (post : Option Value → qS → Prop) (x1 : Int32) (x2 : Int32) (x3 : Int32) (x4 : Int32) (z0 : Int32) : Prop :=
  Ev (qGG D cA b E) mModel_readPan 5 (0, 0) 101 [(0, .ref o), (1, .int x1), (2, .int z0)] [] (n, sh, Rf, I, L) post
set_option maxHeartbeats 4000000 in
set_option maxRecDepth 20000 in
theorem sModel_readPan_179 {D : va_G} {cA : FieldType → ClassId} {b : Nat} {E : State → Prop} (o : Nat) (n : Nat) (sh : Nat → qC) (Rf : Nat → Nat → Option Nat) (I : Nat → Nat → Int32) (L : Nat → Nat → Int64) (post : Option Value → qS → Prop) (x1 : Int32) (x2 : Int32) (x3 : Int32) (x4 : Int32) (z0 : Int32) (hok : q_ok (qGG D cA b E)) (hw : WfModel (qGG D cA b E) n sh Rf o) (H : fModel_readPan_179 D cA b E o n sh Rf I L post x1 x2 x3 x4 z0) : Ev (qGG D cA b E) mModel_readPan 5 (0, 0) 179 [(0, .ref o), (1, .int x1), (2, .int x2), (3, .int x3), (4, .int x4)] [.int z0] (n, sh, Rf, I, L) post := by
  unfold fModel_readPan_179 at H
  refine ev_istore_n dModel_readPan_179 (by decide) ?_
  refine ev_goto 101 dModel_readPan_180 (by decide) ?_
  exact ev_sub [(0, .ref o), (1, .int x1), (2, .int z0)] rfl H
def fModel_readPan_153 (D : va_G) (cA : FieldType → ClassId) (b : Nat) (E : State → Prop) (o : Nat) (n : Nat) (sh : Nat → qC) (Rf : Nat → Nat → Option Nat) (I : Nat → Nat → Int32) (L : Nat → Nat → Int64) (post : Option Value → qS → Prop) (x1 : Int32) (x2 : Int32) (x3 : Int32) (x4 : Int32) : Prop :=
  vp_in x1 6 ∧ vp_in x1 6 ∧ ∀ I2 : Nat → Nat → Int32, q_u I (o + 18) (x1 : Int32).toNatClampNeg ((I (o + 18) (x1 : Int32).toNatClampNeg) ||| (1 <<< (x4 &&& 31))) = I2 → ((¬ (I2 o 8) = 4 → fModel_readPan_179 D cA b E o n sh Rf I2 L post x1 x2 x3 x4 0) ∧ ((I2 o 8) = 4 → fModel_readPan_179 D cA b E o n sh Rf I2 L post x1 x2 x3 x4 1))
set_option maxHeartbeats 4000000 in
set_option maxRecDepth 20000 in
theorem sModel_readPan_153 {D : va_G} {cA : FieldType → ClassId} {b : Nat} {E : State → Prop} (o : Nat) (n : Nat) (sh : Nat → qC) (Rf : Nat → Nat → Option Nat) (I : Nat → Nat → Int32) (L : Nat → Nat → Int64) (post : Option Value → qS → Prop) (x1 : Int32) (x2 : Int32) (x3 : Int32) (x4 : Int32) (hok : q_ok (qGG D cA b E)) (hw : WfModel (qGG D cA b E) n sh Rf o) (H : fModel_readPan_153 D cA b E o n sh Rf I L post x1 x2 x3 x4) : Ev (qGG D cA b E) mModel_readPan 5 (0, 0) 153 [(0, .ref o), (1, .int x1), (2, .int x2), (3, .int x3), (4, .int x4)] [] (n, sh, Rf, I, L) post := by
  unfold fModel_readPan_153 at H
  refine ev_aload_n dModel_readPan_153 rfl ?_
  refine ev_getR hok fk_Model_248 (woModel hw) (fun _ _ _ => rfl) (wrModel_27 hw) dModel_readPan_154 ?_
  refine ev_iload_n dModel_readPan_157 rfl ?_
  refine ev_dup2_11 dModel_readPan_158 rfl rfl ?_
  obtain ⟨h1, H⟩ := H
  refine ev_iald hok (waModel_27 hw) h1 dModel_readPan_159 ?_
  refine ev_iconst (1) dModel_readPan_160 (by decide) ?_
  refine ev_iload dModel_readPan_161 rfl ?_
  refine ev_ishl dModel_readPan_163 ?_
  refine ev_ior dModel_readPan_164 ?_
  obtain ⟨h3, H⟩ := H
  refine ev_iast hok (waModel_27 hw) h3 dModel_readPan_165 ?_
  generalize eI2 : q_u I (o + 18) (x1 : Int32).toNatClampNeg ((I (o + 18) (x1 : Int32).toNatClampNeg) ||| (1 <<< (x4 &&& 31))) = I2
  have H := H I2 eI2
  refine ev_aload_n dModel_readPan_166 rfl ?_
  refine ev_getI hok fk_Model_98 (woModel hw) (fun _ _ _ => rfl) dModel_readPan_167 ?_
  refine ev_iconst (4) dModel_readPan_170 (by decide) ?_
  refine ev_icmp_ne 178 dModel_readPan_171 (by decide) (fun c4 => ?_) (fun c4 => ?_)
  · have H := H.1 c4
    refine ev_iconst (0) dModel_readPan_178 (by decide) ?_
    exact ev_sub [(0, .ref o), (1, .int x1), (2, .int x2), (3, .int x3), (4, .int x4)] rfl (sModel_readPan_179 o n sh Rf I2 L post x1 x2 x3 x4 0 hok hw H)
  · have H := H.2 c4
    refine ev_iconst (1) dModel_readPan_174 (by decide) ?_
    refine ev_goto 179 dModel_readPan_175 (by decide) ?_
    exact ev_sub [(0, .ref o), (1, .int x1), (2, .int x2), (3, .int x3), (4, .int x4)] rfl (sModel_readPan_179 o n sh Rf I2 L post x1 x2 x3 x4 1 hok hw H)
def fModel_readPan_101 (D : va_G) (cA : FieldType → ClassId) (b : Nat) (E : State → Prop) (o : Nat) (n : Nat) (sh : Nat → qC) (Rf : Nat → Nat → Option Nat) (I : Nat → Nat → Int32) (L : Nat → Nat → Int64) (post : Option Value → qS → Prop) (x1 : Int32) (x2 : Int32) : Prop :=
  ((x2 = 0 → fModel_readPan_183 D cA b E o n sh Rf I L post x1 x2) ∧ (¬ x2 = 0 → Ev (qGG D cA b E) mModel_isGood 0 (0, 0) 0 (lv_args 0 [.ref o]) [] (n, sh, Rf, I, L) (fun v τ => ∃ (r3 : Int32) (I4 : Nat → Nat → Int32) (L5 : Nat → Nat → Int64), v = some (.int r3) ∧ τ = (n, sh, Rf, I4, L5) ∧ ((r3 = 0 → fModel_readPan_183 D cA b E o n sh Rf I4 L5 post x1 x2) ∧ (¬ r3 = 0 → Ev (qGG D cA b E) mModel_numeral 3 (0, 0) 0 (lv_args 0 [.ref o, .int 0, .int 4]) [] (n, sh, Rf, I4, L5) (fun v τ => ∃ (r8 : Int32) (I9 : Nat → Nat → Int32) (L10 : Nat → Nat → Int64), v = some (.int r8) ∧ τ = (n, sh, Rf, I9, L10) ∧ Ev (qGG D cA b E) mModel_isGood 0 (0, 0) 0 (lv_args 0 [.ref o]) [] (n, sh, Rf, I9, L10) (fun v τ => ∃ (r12 : Int32) (I13 : Nat → Nat → Int32) (L14 : Nat → Nat → Int64), v = some (.int r12) ∧ τ = (n, sh, Rf, I13, L14) ∧ ((r12 = 0 → fModel_readPan_153 D cA b E o n sh Rf I13 L14 post x1 x2 (I4 o 6) r8) ∧ (¬ r12 = 0 → vp_in x1 6 ∧ ((¬ (((I13 (o + 18) (x1 : Int32).toNatClampNeg) >>> (r8 &&& 31)) &&& 1) = 1 → fModel_readPan_153 D cA b E o n sh Rf I13 L14 post x1 x2 (I4 o 6) r8) ∧ ((((I13 (o + 18) (x1 : Int32).toNatClampNeg) >>> (r8 &&& 31)) &&& 1) = 1 → Ev (qGG D cA b E) mModel_fails 0 (0, 0) 0 (lv_args 0 [.ref o, .int 4, .int ((I4 o 6))]) [] (n, sh, Rf, I13, L14) (fun v τ => ∃ (I20 : Nat → Nat → Int32) (L21 : Nat → Nat → Int64), v = none ∧ τ = (n, sh, Rf, I20, L21) ∧ fModel_readPan_153 D cA b E o n sh Rf I20 L21 post x1 x2 (I4 o 6) r8))))))))))))
set_option maxHeartbeats 4000000 in
set_option maxRecDepth 20000 in
theorem sModel_readPan_101 {D : va_G} {cA : FieldType → ClassId} {b : Nat} {E : State → Prop} (o : Nat) (n : Nat) (sh : Nat → qC) (Rf : Nat → Nat → Option Nat) (I : Nat → Nat → Int32) (L : Nat → Nat → Int64) (post : Option Value → qS → Prop) (x1 : Int32) (x2 : Int32) (hok : q_ok (qGG D cA b E)) (hw : WfModel (qGG D cA b E) n sh Rf o) (H : fModel_readPan_101 D cA b E o n sh Rf I L post x1 x2) : Ev (qGG D cA b E) mModel_readPan 5 (0, 0) 101 [(0, .ref o), (1, .int x1), (2, .int x2)] [] (n, sh, Rf, I, L) post := by
  unfold fModel_readPan_101 at H
  refine ev_iload_n dModel_readPan_101 rfl ?_
  refine ev_if_eq 183 dModel_readPan_102 (by decide) (fun c1 => ?_) (fun c1 => ?_)
  · have H := H.1 c1
    exact ev_sub [(0, .ref o), (1, .int x1), (2, .int x2)] rfl (sModel_readPan_183 o n sh Rf I L post x1 x2 hok hw H)
  · have H := H.2 c1
    refine ev_aload_n dModel_readPan_105 rfl ?_
    refine ev_callV [] [] (B' := (0, 0)) (B'' := (0, 0)) hok mmModel_isGood mk_Model_126 (ci := 12) rfl rfl (woModel hw) rfl (Nat.le_of_ble_eq_true rfl) rfl (Nat.le_of_ble_eq_true rfl) dModel_readPan_106 rfl (by decide) H (fun v τ p2 => ?_)
    obtain ⟨r3, I4, L5, rfl, rfl, H⟩ := p2
    refine ev_if_eq 183 dModel_readPan_109 (by decide) (fun c6 => ?_) (fun c6 => ?_)
    · have H := H.1 c6
      exact ev_sub [(0, .ref o), (1, .int x1), (2, .int x2)] rfl (sModel_readPan_183 o n sh Rf I4 L5 post x1 x2 hok hw H)
    · have H := H.2 c6
      refine ev_aload_n dModel_readPan_112 rfl ?_
      refine ev_getI hok fk_Model_95 (woModel hw) (fun _ _ _ => rfl) dModel_readPan_113 ?_
      refine ev_istore_n dModel_readPan_116 (by decide) ?_
      refine ev_aload_n dModel_readPan_117 rfl ?_
      refine ev_iconst (0) dModel_readPan_118 (by decide) ?_
      refine ev_iconst (4) dModel_readPan_119 (by decide) ?_
      refine ev_callV [.int 0, .int 4] [] (B' := (0, 0)) (B'' := (0, 0)) hok mmModel_numeral mk_Model_212 (ci := 12) rfl rfl (woModel hw) rfl (Nat.le_of_ble_eq_true rfl) rfl (Nat.le_of_ble_eq_true rfl) dModel_readPan_120 rfl (by decide) H (fun v τ p7 => ?_)
      obtain ⟨r8, I9, L10, rfl, rfl, H⟩ := p7
      refine ev_istore dModel_readPan_123 (by decide) ?_
      refine ev_aload_n dModel_readPan_125 rfl ?_
      refine ev_callV [] [] (B' := (0, 0)) (B'' := (0, 0)) hok mmModel_isGood mk_Model_126 (ci := 12) rfl rfl (woModel hw) rfl (Nat.le_of_ble_eq_true rfl) rfl (Nat.le_of_ble_eq_true rfl) dModel_readPan_126 rfl (by decide) H (fun v τ p11 => ?_)
      obtain ⟨r12, I13, L14, rfl, rfl, H⟩ := p11
      refine ev_if_eq 153 dModel_readPan_129 (by decide) (fun c15 => ?_) (fun c15 => ?_)
      · have H := H.1 c15
        exact ev_sub [(0, .ref o), (1, .int x1), (2, .int x2), (3, .int ((I4 o 6))), (4, .int r8)] rfl (sModel_readPan_153 o n sh Rf I13 L14 post x1 x2 (I4 o 6) r8 hok hw H)
      · have H := H.2 c15
        refine ev_aload_n dModel_readPan_132 rfl ?_
        refine ev_getR hok fk_Model_248 (woModel hw) (fun _ _ _ => rfl) (wrModel_27 hw) dModel_readPan_133 ?_
        refine ev_iload_n dModel_readPan_136 rfl ?_
        obtain ⟨h16, H⟩ := H
        refine ev_iald hok (waModel_27 hw) h16 dModel_readPan_137 ?_
        refine ev_iload dModel_readPan_138 rfl ?_
        refine ev_ishr dModel_readPan_140 ?_
        refine ev_iconst (1) dModel_readPan_141 (by decide) ?_
        refine ev_iand dModel_readPan_142 ?_
        refine ev_iconst (1) dModel_readPan_143 (by decide) ?_
        refine ev_icmp_ne 153 dModel_readPan_144 (by decide) (fun c17 => ?_) (fun c17 => ?_)
        · have H := H.1 c17
          exact ev_sub [(0, .ref o), (1, .int x1), (2, .int x2), (3, .int ((I4 o 6))), (4, .int r8)] rfl (sModel_readPan_153 o n sh Rf I13 L14 post x1 x2 (I4 o 6) r8 hok hw H)
        · have H := H.2 c17
          refine ev_aload_n dModel_readPan_147 rfl ?_
          refine ev_iconst (4) dModel_readPan_148 (by decide) ?_
          refine ev_iload_n dModel_readPan_149 rfl ?_
          refine ev_callV [.int 4, .int ((I4 o 6))] [] (B' := (0, 0)) (B'' := (0, 0)) hok mmModel_fails mk_Model_122 (ci := 12) rfl rfl (woModel hw) rfl (Nat.le_of_ble_eq_true rfl) rfl (Nat.le_of_ble_eq_true rfl) dModel_readPan_150 rfl (by decide) H (fun v τ p18 => ?_)
          obtain ⟨I20, L21, rfl, rfl, H⟩ := p18
          exact ev_sub [(0, .ref o), (1, .int x1), (2, .int x2), (3, .int ((I4 o 6))), (4, .int r8)] rfl (sModel_readPan_153 o n sh Rf I20 L21 post x1 x2 (I4 o 6) r8 hok hw H)
def fModel_readPan_50 (D : va_G) (cA : FieldType → ClassId) (b : Nat) (E : State → Prop) (o : Nat) (n : Nat) (sh : Nat → qC) (Rf : Nat → Nat → Option Nat) (I : Nat → Nat → Int32) (L : Nat → Nat → Int64) (post : Option Value → qS → Prop) (x1 : Int32) (x2 : Int32) : Prop :=
  ((12 ≤ x2 → Ev (qGG D cA b E) mModel_isWord 0 (0, 0) 0 (lv_args 0 [.ref o, .long 126879549252979]) [] (n, sh, Rf, I, L) (fun v τ => ∃ (r3 : Int32) (I4 : Nat → Nat → Int32) (L5 : Nat → Nat → Int64), v = some (.int r3) ∧ τ = (n, sh, Rf, I4, L5) ∧ Ev (qGG D cA b E) mModel_must 3 (0, 0) 0 (lv_args 0 [.ref o, .int r3]) [] (n, sh, Rf, I4, L5) (fun v τ => ∃ (I8 : Nat → Nat → Int32) (L9 : Nat → Nat → Int64), v = none ∧ τ = (n, sh, Rf, I8, L9) ∧ vp_in x1 6 ∧ ∀ I10 : Nat → Nat → Int32, q_u I8 (o + 18) (x1 : Int32).toNatClampNeg 0 = I10 → Ev (qGG D cA b E) mModel_readPan 5 (0, 0) 101 [(0, .ref o), (1, .int x1), (2, .int 1)] [] (n, sh, Rf, I10, L9) post))) ∧ (¬ 12 ≤ x2 → Ev (qGG D cA b E) mModel_numeral 3 (0, 0) 0 (lv_args 0 [.ref o, .int 0, .int 999]) [] (n, sh, Rf, I, L) (fun v τ => ∃ (r13 : Int32) (I14 : Nat → Nat → Int32) (L15 : Nat → Nat → Int64), v = some (.int r13) ∧ τ = (n, sh, Rf, I14, L15) ∧ vp_in ((12 * x1) + x2) 72 ∧ ∀ I16 : Nat → Nat → Int32, q_u I14 (o + 17) (((12 * x1) + x2) : Int32).toNatClampNeg r13 = I16 → Ev (qGG D cA b E) mModel_readPan 5 (0, 0) 50 [(0, .ref o), (1, .int x1), (2, .int ((x2 + Int32.ofInt 1)))] [] (n, sh, Rf, I16, L15) post)))
set_option maxHeartbeats 4000000 in
set_option maxRecDepth 20000 in
theorem sModel_readPan_50 {D : va_G} {cA : FieldType → ClassId} {b : Nat} {E : State → Prop} (o : Nat) (n : Nat) (sh : Nat → qC) (Rf : Nat → Nat → Option Nat) (I : Nat → Nat → Int32) (L : Nat → Nat → Int64) (post : Option Value → qS → Prop) (x1 : Int32) (x2 : Int32) (hok : q_ok (qGG D cA b E)) (hw : WfModel (qGG D cA b E) n sh Rf o) (H : fModel_readPan_50 D cA b E o n sh Rf I L post x1 x2) : Ev (qGG D cA b E) mModel_readPan 5 (0, 0) 50 [(0, .ref o), (1, .int x1), (2, .int x2)] [] (n, sh, Rf, I, L) post := by
  unfold fModel_readPan_50 at H
  refine ev_iload_n dModel_readPan_50 rfl ?_
  refine ev_bipush (12) dModel_readPan_51 (by decide) ?_
  refine ev_icmp_ge 81 dModel_readPan_53 (by decide) (fun c1 => ?_) (fun c1 => ?_)
  · have H := H.1 c1
    refine ev_aload_n dModel_readPan_81 rfl ?_
    refine ev_aload_n dModel_readPan_82 rfl ?_
    refine ev_ldc2 (126879549252979) dModel_readPan_83 (q_t6 239 (by decide +kernel) rfl) ?_
    refine ev_callV [.long 126879549252979] [.ref o] (B' := (0, 0)) (B'' := (0, 0)) hok mmModel_isWord mk_Model_178 (ci := 12) rfl rfl (woModel hw) rfl (Nat.le_of_ble_eq_true rfl) rfl (Nat.le_of_ble_eq_true rfl) dModel_readPan_86 rfl (by decide) H (fun v τ p2 => ?_)
    obtain ⟨r3, I4, L5, rfl, rfl, H⟩ := p2
    refine ev_callV [.int r3] [] (B' := (0, 0)) (B'' := (0, 0)) hok mmModel_must mk_Model_196 (ci := 12) rfl rfl (woModel hw) rfl (Nat.le_of_ble_eq_true rfl) rfl (Nat.le_of_ble_eq_true rfl) dModel_readPan_89 rfl (by decide) H (fun v τ p6 => ?_)
    obtain ⟨I8, L9, rfl, rfl, H⟩ := p6
    refine ev_aload_n dModel_readPan_92 rfl ?_
    refine ev_getR hok fk_Model_248 (woModel hw) (fun _ _ _ => rfl) (wrModel_27 hw) dModel_readPan_93 ?_
    refine ev_iload_n dModel_readPan_96 rfl ?_
    refine ev_iconst (0) dModel_readPan_97 (by decide) ?_
    obtain ⟨h11, H⟩ := H
    refine ev_iast hok (waModel_27 hw) h11 dModel_readPan_98 ?_
    generalize eI10 : q_u I8 (o + 18) (x1 : Int32).toNatClampNeg 0 = I10
    have H := H I10 eI10
    refine ev_iconst (1) dModel_readPan_99 (by decide) ?_
    refine ev_istore_n dModel_readPan_100 (by decide) ?_
    exact ev_sub [(0, .ref o), (1, .int x1), (2, .int 1)] rfl H
  · have H := H.2 c1
    refine ev_aload_n dModel_readPan_56 rfl ?_
    refine ev_getR hok fk_Model_245 (woModel hw) (fun _ _ _ => rfl) (wrModel_26 hw) dModel_readPan_57 ?_
    refine ev_bipush (12) dModel_readPan_60 (by decide) ?_
    refine ev_iload_n dModel_readPan_62 rfl ?_
    refine ev_imul dModel_readPan_63 ?_
    refine ev_iload_n dModel_readPan_64 rfl ?_
    refine ev_iadd dModel_readPan_65 ?_
    refine ev_aload_n dModel_readPan_66 rfl ?_
    refine ev_iconst (0) dModel_readPan_67 (by decide) ?_
    refine ev_sipush (999) dModel_readPan_68 (by decide) ?_
    refine ev_callV [.int 0, .int 999] [.int (((12 * x1) + x2)), .ref ((o + 17))] (B' := (0, 0)) (B'' := (0, 0)) hok mmModel_numeral mk_Model_212 (ci := 12) rfl rfl (woModel hw) rfl (Nat.le_of_ble_eq_true rfl) rfl (Nat.le_of_ble_eq_true rfl) dModel_readPan_71 rfl (by decide) H (fun v τ p12 => ?_)
    obtain ⟨r13, I14, L15, rfl, rfl, H⟩ := p12
    obtain ⟨h17, H⟩ := H
    refine ev_iast hok (waModel_26 hw) h17 dModel_readPan_74 ?_
    generalize eI16 : q_u I14 (o + 17) (((12 * x1) + x2) : Int32).toNatClampNeg r13 = I16
    have H := H I16 eI16
    refine ev_iinc dModel_readPan_75 rfl (by decide) ?_
    refine ev_goto 50 dModel_readPan_78 (by decide) ?_
    exact ev_sub [(0, .ref o), (1, .int x1), (2, .int ((x2 + Int32.ofInt 1)))] rfl H
def fModel_readPan_0 (D : va_G) (cA : FieldType → ClassId) (b : Nat) (E : State → Prop) (o : Nat) (n : Nat) (sh : Nat → qC) (Rf : Nat → Nat → Option Nat) (I : Nat → Nat → Int32) (L : Nat → Nat → Int64) (post : Option Value → qS → Prop)  : Prop :=
  vp_in (I o 35) 2 ∧ Ev (qGG D cA b E) mModel_newName 4 (0, 0) 0 (lv_args 0 [.ref o]) [] (n, sh, Rf, I, L) (fun v τ => ∃ (r3 : Int64) (I4 : Nat → Nat → Int32) (L5 : Nat → Nat → Int64), v = some (.long r3) ∧ τ = (n, sh, Rf, I4, L5) ∧ vp_in ((3 * (I o 35)) + (I (o + 8) ((I o 35) : Int32).toNatClampNeg)) 6 ∧ ∀ L6 : Nat → Nat → Int64, q_u L5 (o + 4) (((3 * (I o 35)) + (I (o + 8) ((I o 35) : Int32).toNatClampNeg)) : Int32).toNatClampNeg r3 = L6 → Ev (qGG D cA b E) mModel_point 4 (0, 0) 0 (lv_args 0 [.ref o]) [] (n, sh, Rf, I4, L6) (fun v τ => ∃ (r9 : Int32) (I10 : Nat → Nat → Int32) (L11 : Nat → Nat → Int64), v = some (.int r9) ∧ τ = (n, sh, Rf, I10, L11) ∧ vp_in ((3 * (I o 35)) + (I (o + 8) ((I o 35) : Int32).toNatClampNeg)) 6 ∧ ∀ I12 : Nat → Nat → Int32, q_u I10 (o + 16) (((3 * (I o 35)) + (I (o + 8) ((I o 35) : Int32).toNatClampNeg)) : Int32).toNatClampNeg r9 = I12 → Ev (qGG D cA b E) mModel_isWord 0 (0, 0) 0 (lv_args 0 [.ref o, .long 469785863539]) [] (n, sh, Rf, I12, L11) (fun v τ => ∃ (r15 : Int32) (I16 : Nat → Nat → Int32) (L17 : Nat → Nat → Int64), v = some (.int r15) ∧ τ = (n, sh, Rf, I16, L17) ∧ Ev (qGG D cA b E) mModel_must 3 (0, 0) 0 (lv_args 0 [.ref o, .int r15]) [] (n, sh, Rf, I16, L17) (fun v τ => ∃ (I20 : Nat → Nat → Int32) (L21 : Nat → Nat → Int64), v = none ∧ τ = (n, sh, Rf, I20, L21) ∧ Ev (qGG D cA b E) mModel_readPan 5 (0, 0) 50 [(0, .ref o), (1, .int (((3 * (I o 35)) + (I (o + 8) ((I o 35) : Int32).toNatClampNeg)))), (2, .int 0)] [] (n, sh, Rf, I20, L21) post))))
set_option maxHeartbeats 4000000 in
set_option maxRecDepth 20000 in
theorem sModel_readPan_0 {D : va_G} {cA : FieldType → ClassId} {b : Nat} {E : State → Prop} (o : Nat) (n : Nat) (sh : Nat → qC) (Rf : Nat → Nat → Option Nat) (I : Nat → Nat → Int32) (L : Nat → Nat → Int64) (post : Option Value → qS → Prop)  (hok : q_ok (qGG D cA b E)) (hw : WfModel (qGG D cA b E) n sh Rf o) (H : fModel_readPan_0 D cA b E o n sh Rf I L post ) : Ev (qGG D cA b E) mModel_readPan 5 (0, 0) 0 [(0, .ref o)] [] (n, sh, Rf, I, L) post := by
  unfold fModel_readPan_0 at H
  refine ev_iconst (3) dModel_readPan_0 (by decide) ?_
  refine ev_aload_n dModel_readPan_1 rfl ?_
  refine ev_getI hok fk_Model_150 (woModel hw) (fun _ _ _ => rfl) dModel_readPan_2 ?_
  refine ev_imul dModel_readPan_5 ?_
  refine ev_aload_n dModel_readPan_6 rfl ?_
  refine ev_getR hok fk_Model_160 (woModel hw) (fun _ _ _ => rfl) (wrModel_17 hw) dModel_readPan_7 ?_
  refine ev_aload_n dModel_readPan_10 rfl ?_
  refine ev_getI hok fk_Model_150 (woModel hw) (fun _ _ _ => rfl) dModel_readPan_11 ?_
  obtain ⟨h1, H⟩ := H
  refine ev_iald hok (waModel_17 hw) h1 dModel_readPan_14 ?_
  refine ev_iadd dModel_readPan_15 ?_
  refine ev_istore_n dModel_readPan_16 (by decide) ?_
  refine ev_aload_n dModel_readPan_17 rfl ?_
  refine ev_getR hok fk_Model_220 (woModel hw) (fun _ _ _ => rfl) (wrModel_13 hw) dModel_readPan_18 ?_
  refine ev_iload_n dModel_readPan_21 rfl ?_
  refine ev_aload_n dModel_readPan_22 rfl ?_
  refine ev_callV [] [.int (((3 * (I o 35)) + (I (o + 8) ((I o 35) : Int32).toNatClampNeg))), .ref ((o + 4))] (B' := (0, 0)) (B'' := (0, 0)) hok mmModel_newName mk_Model_229 (ci := 12) rfl rfl (woModel hw) rfl (Nat.le_of_ble_eq_true rfl) rfl (Nat.le_of_ble_eq_true rfl) dModel_readPan_23 rfl (by decide) H (fun v τ p2 => ?_)
  obtain ⟨r3, I4, L5, rfl, rfl, H⟩ := p2
  obtain ⟨h7, H⟩ := H
  refine ev_last hok (waModel_13 hw) h7 dModel_readPan_26 ?_
  generalize eL6 : q_u L5 (o + 4) (((3 * (I o 35)) + (I (o + 8) ((I o 35) : Int32).toNatClampNeg)) : Int32).toNatClampNeg r3 = L6
  have H := H L6 eL6
  refine ev_aload_n dModel_readPan_27 rfl ?_
  refine ev_getR hok fk_Model_242 (woModel hw) (fun _ _ _ => rfl) (wrModel_25 hw) dModel_readPan_28 ?_
  refine ev_iload_n dModel_readPan_31 rfl ?_
  refine ev_aload_n dModel_readPan_32 rfl ?_
  refine ev_callV [] [.int (((3 * (I o 35)) + (I (o + 8) ((I o 35) : Int32).toNatClampNeg))), .ref ((o + 16))] (B' := (0, 0)) (B'' := (0, 0)) hok mmModel_point mk_Model_202 (ci := 12) rfl rfl (woModel hw) rfl (Nat.le_of_ble_eq_true rfl) rfl (Nat.le_of_ble_eq_true rfl) dModel_readPan_33 rfl (by decide) H (fun v τ p8 => ?_)
  obtain ⟨r9, I10, L11, rfl, rfl, H⟩ := p8
  obtain ⟨h13, H⟩ := H
  refine ev_iast hok (waModel_25 hw) h13 dModel_readPan_36 ?_
  generalize eI12 : q_u I10 (o + 16) (((3 * (I o 35)) + (I (o + 8) ((I o 35) : Int32).toNatClampNeg)) : Int32).toNatClampNeg r9 = I12
  have H := H I12 eI12
  refine ev_aload_n dModel_readPan_37 rfl ?_
  refine ev_aload_n dModel_readPan_38 rfl ?_
  refine ev_ldc2 (469785863539) dModel_readPan_39 (q_t6 238 (by decide +kernel) rfl) ?_
  refine ev_callV [.long 469785863539] [.ref o] (B' := (0, 0)) (B'' := (0, 0)) hok mmModel_isWord mk_Model_178 (ci := 12) rfl rfl (woModel hw) rfl (Nat.le_of_ble_eq_true rfl) rfl (Nat.le_of_ble_eq_true rfl) dModel_readPan_42 rfl (by decide) H (fun v τ p14 => ?_)
  obtain ⟨r15, I16, L17, rfl, rfl, H⟩ := p14
  refine ev_callV [.int r15] [] (B' := (0, 0)) (B'' := (0, 0)) hok mmModel_must mk_Model_196 (ci := 12) rfl rfl (woModel hw) rfl (Nat.le_of_ble_eq_true rfl) rfl (Nat.le_of_ble_eq_true rfl) dModel_readPan_45 rfl (by decide) H (fun v τ p18 => ?_)
  obtain ⟨I20, L21, rfl, rfl, H⟩ := p18
  refine ev_iconst (0) dModel_readPan_48 (by decide) ?_
  refine ev_istore_n dModel_readPan_49 (by decide) ?_
  exact ev_sub [(0, .ref o), (1, .int (((3 * (I o 35)) + (I (o + 8) ((I o 35) : Int32).toNatClampNeg)))), (2, .int 0)] rfl H
def fModel_readRoad_65 (D : va_G) (cA : FieldType → ClassId) (b : Nat) (E : State → Prop) (o : Nat) (n : Nat) (sh : Nat → qC) (Rf : Nat → Nat → Option Nat) (I : Nat → Nat → Int32) (L : Nat → Nat → Int64) (post : Option Value → qS → Prop) (x1 : Int32) : Prop :=
  Ev (qGG D cA b E) mModel_point 4 (0, 0) 0 (lv_args 0 [.ref o]) [] (n, sh, Rf, I, L) (fun v τ => ∃ (r2 : Int32) (I3 : Nat → Nat → Int32) (L4 : Nat → Nat → Int64), v = some (.int r2) ∧ τ = (n, sh, Rf, I3, L4) ∧ vp_in x1 48 ∧ ∀ I5 : Nat → Nat → Int32, q_u I3 (o + 11) (x1 : Int32).toNatClampNeg r2 = I5 → Ev (qGG D cA b E) mModel_numeral 3 (0, 0) 0 (lv_args 0 [.ref o, .int 1, .int 90]) [] (n, sh, Rf, I5, L4) (fun v τ => ∃ (r8 : Int32) (I9 : Nat → Nat → Int32) (L10 : Nat → Nat → Int64), v = some (.int r8) ∧ τ = (n, sh, Rf, I9, L10) ∧ vp_in x1 48 ∧ ∀ I11 : Nat → Nat → Int32, q_u I9 (o + 12) (x1 : Int32).toNatClampNeg r8 = I11 → Ev (qGG D cA b E) mModel_isGood 0 (0, 0) 0 (lv_args 0 [.ref o]) [] (n, sh, Rf, I11, L10) (fun v τ => ∃ (r14 : Int32) (I15 : Nat → Nat → Int32) (L16 : Nat → Nat → Int64), v = some (.int r14) ∧ τ = (n, sh, Rf, I15, L16) ∧ ((r14 = 0 → post none (n, sh, Rf, I15, L16)) ∧ (¬ r14 = 0 → vp_in (I15 o 35) 2 ∧ vp_in (I15 o 35) 2 ∧ ∀ I19 : Nat → Nat → Int32, q_u I15 (o + 6) ((I15 o 35) : Int32).toNatClampNeg ((I15 (o + 6) ((I15 o 35) : Int32).toNatClampNeg) + 1) = I19 → post none (n, sh, Rf, I19, L16))))))
set_option maxHeartbeats 4000000 in
set_option maxRecDepth 20000 in
theorem sModel_readRoad_65 {D : va_G} {cA : FieldType → ClassId} {b : Nat} {E : State → Prop} (o : Nat) (n : Nat) (sh : Nat → qC) (Rf : Nat → Nat → Option Nat) (I : Nat → Nat → Int32) (L : Nat → Nat → Int64) (post : Option Value → qS → Prop) (x1 : Int32) (hok : q_ok (qGG D cA b E)) (hw : WfModel (qGG D cA b E) n sh Rf o) (H : fModel_readRoad_65 D cA b E o n sh Rf I L post x1) : Ev (qGG D cA b E) mModel_readRoad 5 (0, 0) 65 [(0, .ref o), (1, .int x1)] [] (n, sh, Rf, I, L) post := by
  unfold fModel_readRoad_65 at H
  refine ev_aload_n dModel_readRoad_65 rfl ?_
  refine ev_getR hok fk_Model_206 (woModel hw) (fun _ _ _ => rfl) (wrModel_20 hw) dModel_readRoad_66 ?_
  refine ev_iload_n dModel_readRoad_69 rfl ?_
  refine ev_aload_n dModel_readRoad_70 rfl ?_
  refine ev_callV [] [.int x1, .ref ((o + 11))] (B' := (0, 0)) (B'' := (0, 0)) hok mmModel_point mk_Model_202 (ci := 12) rfl rfl (woModel hw) rfl (Nat.le_of_ble_eq_true rfl) rfl (Nat.le_of_ble_eq_true rfl) dModel_readRoad_71 rfl (by decide) H (fun v τ p1 => ?_)
  obtain ⟨r2, I3, L4, rfl, rfl, H⟩ := p1
  obtain ⟨h6, H⟩ := H
  refine ev_iast hok (waModel_20 hw) h6 dModel_readRoad_74 ?_
  generalize eI5 : q_u I3 (o + 11) (x1 : Int32).toNatClampNeg r2 = I5
  have H := H I5 eI5
  refine ev_aload_n dModel_readRoad_75 rfl ?_
  refine ev_getR hok fk_Model_209 (woModel hw) (fun _ _ _ => rfl) (wrModel_21 hw) dModel_readRoad_76 ?_
  refine ev_iload_n dModel_readRoad_79 rfl ?_
  refine ev_aload_n dModel_readRoad_80 rfl ?_
  refine ev_iconst (1) dModel_readRoad_81 (by decide) ?_
  refine ev_bipush (90) dModel_readRoad_82 (by decide) ?_
  refine ev_callV [.int 1, .int 90] [.int x1, .ref ((o + 12))] (B' := (0, 0)) (B'' := (0, 0)) hok mmModel_numeral mk_Model_212 (ci := 12) rfl rfl (woModel hw) rfl (Nat.le_of_ble_eq_true rfl) rfl (Nat.le_of_ble_eq_true rfl) dModel_readRoad_84 rfl (by decide) H (fun v τ p7 => ?_)
  obtain ⟨r8, I9, L10, rfl, rfl, H⟩ := p7
  obtain ⟨h12, H⟩ := H
  refine ev_iast hok (waModel_21 hw) h12 dModel_readRoad_87 ?_
  generalize eI11 : q_u I9 (o + 12) (x1 : Int32).toNatClampNeg r8 = I11
  have H := H I11 eI11
  refine ev_aload_n dModel_readRoad_88 rfl ?_
  refine ev_callV [] [] (B' := (0, 0)) (B'' := (0, 0)) hok mmModel_isGood mk_Model_126 (ci := 12) rfl rfl (woModel hw) rfl (Nat.le_of_ble_eq_true rfl) rfl (Nat.le_of_ble_eq_true rfl) dModel_readRoad_89 rfl (by decide) H (fun v τ p13 => ?_)
  obtain ⟨r14, I15, L16, rfl, rfl, H⟩ := p13
  refine ev_if_eq 108 dModel_readRoad_92 (by decide) (fun c17 => ?_) (fun c17 => ?_)
  · have H := H.1 c17
    exact ev_vret rfl dModel_readRoad_108 H
  · have H := H.2 c17
    refine ev_aload_n dModel_readRoad_95 rfl ?_
    refine ev_getR hok fk_Model_153 (woModel hw) (fun _ _ _ => rfl) (wrModel_15 hw) dModel_readRoad_96 ?_
    refine ev_aload_n dModel_readRoad_99 rfl ?_
    refine ev_getI hok fk_Model_150 (woModel hw) (fun _ _ _ => rfl) dModel_readRoad_100 ?_
    refine ev_dup2_11 dModel_readRoad_103 rfl rfl ?_
    obtain ⟨h18, H⟩ := H
    refine ev_iald hok (waModel_15 hw) h18 dModel_readRoad_104 ?_
    refine ev_iconst (1) dModel_readRoad_105 (by decide) ?_
    refine ev_iadd dModel_readRoad_106 ?_
    obtain ⟨h20, H⟩ := H
    refine ev_iast hok (waModel_15 hw) h20 dModel_readRoad_107 ?_
    generalize eI19 : q_u I15 (o + 6) ((I15 o 35) : Int32).toNatClampNeg ((I15 (o + 6) ((I15 o 35) : Int32).toNatClampNeg) + 1) = I19
    have H := H I19 eI19
    exact ev_vret rfl dModel_readRoad_108 H
def fModel_readRoad_0 (D : va_G) (cA : FieldType → ClassId) (b : Nat) (E : State → Prop) (o : Nat) (n : Nat) (sh : Nat → qC) (Rf : Nat → Nat → Option Nat) (I : Nat → Nat → Int32) (L : Nat → Nat → Int64) (post : Option Value → qS → Prop)  : Prop :=
  vp_in (I o 35) 2 ∧ Ev (qGG D cA b E) mModel_point 4 (0, 0) 0 (lv_args 0 [.ref o]) [] (n, sh, Rf, I, L) (fun v τ => ∃ (r3 : Int32) (I4 : Nat → Nat → Int32) (L5 : Nat → Nat → Int64), v = some (.int r3) ∧ τ = (n, sh, Rf, I4, L5) ∧ vp_in ((24 * (I o 35)) + (I (o + 6) ((I o 35) : Int32).toNatClampNeg)) 48 ∧ ∀ I6 : Nat → Nat → Int32, q_u I4 (o + 10) (((24 * (I o 35)) + (I (o + 6) ((I o 35) : Int32).toNatClampNeg)) : Int32).toNatClampNeg r3 = I6 → Ev (qGG D cA b E) mModel_isGood 0 (0, 0) 0 (lv_args 0 [.ref o]) [] (n, sh, Rf, I6, L5) (fun v τ => ∃ (r9 : Int32) (I10 : Nat → Nat → Int32) (L11 : Nat → Nat → Int64), v = some (.int r9) ∧ τ = (n, sh, Rf, I10, L11) ∧ ((r9 = 0 → fModel_readRoad_65 D cA b E o n sh Rf I10 L11 post ((24 * (I o 35)) + (I (o + 6) ((I o 35) : Int32).toNatClampNeg))) ∧ (¬ r9 = 0 → ((¬ (I10 o 8) = 5 → fModel_readRoad_65 D cA b E o n sh Rf I10 L11 post ((24 * (I o 35)) + (I (o + 6) ((I o 35) : Int32).toNatClampNeg))) ∧ ((I10 o 8) = 5 → vp_in ((24 * (I o 35)) + (I (o + 6) ((I o 35) : Int32).toNatClampNeg)) 48 ∧ ((¬ (I10 o 9) = (I10 (o + 10) (((24 * (I o 35)) + (I (o + 6) ((I o 35) : Int32).toNatClampNeg)) : Int32).toNatClampNeg) → fModel_readRoad_65 D cA b E o n sh Rf I10 L11 post ((24 * (I o 35)) + (I (o + 6) ((I o 35) : Int32).toNatClampNeg))) ∧ ((I10 o 9) = (I10 (o + 10) (((24 * (I o 35)) + (I (o + 6) ((I o 35) : Int32).toNatClampNeg)) : Int32).toNatClampNeg) → Ev (qGG D cA b E) mModel_fails 0 (0, 0) 0 (lv_args 0 [.ref o, .int 4, .int ((I10 o 6))]) [] (n, sh, Rf, I10, L11) (fun v τ => ∃ (I18 : Nat → Nat → Int32) (L19 : Nat → Nat → Int64), v = none ∧ τ = (n, sh, Rf, I18, L19) ∧ fModel_readRoad_65 D cA b E o n sh Rf I18 L19 post ((24 * (I o 35)) + (I (o + 6) ((I o 35) : Int32).toNatClampNeg)))))))))))
set_option maxHeartbeats 4000000 in
set_option maxRecDepth 20000 in
theorem sModel_readRoad_0 {D : va_G} {cA : FieldType → ClassId} {b : Nat} {E : State → Prop} (o : Nat) (n : Nat) (sh : Nat → qC) (Rf : Nat → Nat → Option Nat) (I : Nat → Nat → Int32) (L : Nat → Nat → Int64) (post : Option Value → qS → Prop)  (hok : q_ok (qGG D cA b E)) (hw : WfModel (qGG D cA b E) n sh Rf o) (H : fModel_readRoad_0 D cA b E o n sh Rf I L post ) : Ev (qGG D cA b E) mModel_readRoad 5 (0, 0) 0 [(0, .ref o)] [] (n, sh, Rf, I, L) post := by
  unfold fModel_readRoad_0 at H
  refine ev_bipush (24) dModel_readRoad_0 (by decide) ?_
  refine ev_aload_n dModel_readRoad_2 rfl ?_
  refine ev_getI hok fk_Model_150 (woModel hw) (fun _ _ _ => rfl) dModel_readRoad_3 ?_
  refine ev_imul dModel_readRoad_6 ?_
  refine ev_aload_n dModel_readRoad_7 rfl ?_
  refine ev_getR hok fk_Model_153 (woModel hw) (fun _ _ _ => rfl) (wrModel_15 hw) dModel_readRoad_8 ?_
  refine ev_aload_n dModel_readRoad_11 rfl ?_
  refine ev_getI hok fk_Model_150 (woModel hw) (fun _ _ _ => rfl) dModel_readRoad_12 ?_
  obtain ⟨h1, H⟩ := H
  refine ev_iald hok (waModel_15 hw) h1 dModel_readRoad_15 ?_
  refine ev_iadd dModel_readRoad_16 ?_
  refine ev_istore_n dModel_readRoad_17 (by decide) ?_
  refine ev_aload_n dModel_readRoad_18 rfl ?_
  refine ev_getR hok fk_Model_199 (woModel hw) (fun _ _ _ => rfl) (wrModel_19 hw) dModel_readRoad_19 ?_
  refine ev_iload_n dModel_readRoad_22 rfl ?_
  refine ev_aload_n dModel_readRoad_23 rfl ?_
  refine ev_callV [] [.int (((24 * (I o 35)) + (I (o + 6) ((I o 35) : Int32).toNatClampNeg))), .ref ((o + 10))] (B' := (0, 0)) (B'' := (0, 0)) hok mmModel_point mk_Model_202 (ci := 12) rfl rfl (woModel hw) rfl (Nat.le_of_ble_eq_true rfl) rfl (Nat.le_of_ble_eq_true rfl) dModel_readRoad_24 rfl (by decide) H (fun v τ p2 => ?_)
  obtain ⟨r3, I4, L5, rfl, rfl, H⟩ := p2
  obtain ⟨h7, H⟩ := H
  refine ev_iast hok (waModel_19 hw) h7 dModel_readRoad_27 ?_
  generalize eI6 : q_u I4 (o + 10) (((24 * (I o 35)) + (I (o + 6) ((I o 35) : Int32).toNatClampNeg)) : Int32).toNatClampNeg r3 = I6
  have H := H I6 eI6
  refine ev_aload_n dModel_readRoad_28 rfl ?_
  refine ev_callV [] [] (B' := (0, 0)) (B'' := (0, 0)) hok mmModel_isGood mk_Model_126 (ci := 12) rfl rfl (woModel hw) rfl (Nat.le_of_ble_eq_true rfl) rfl (Nat.le_of_ble_eq_true rfl) dModel_readRoad_29 rfl (by decide) H (fun v τ p8 => ?_)
  obtain ⟨r9, I10, L11, rfl, rfl, H⟩ := p8
  refine ev_if_eq 65 dModel_readRoad_32 (by decide) (fun c12 => ?_) (fun c12 => ?_)
  · have H := H.1 c12
    exact ev_sub [(0, .ref o), (1, .int (((24 * (I o 35)) + (I (o + 6) ((I o 35) : Int32).toNatClampNeg))))] rfl (sModel_readRoad_65 o n sh Rf I10 L11 post ((24 * (I o 35)) + (I (o + 6) ((I o 35) : Int32).toNatClampNeg)) hok hw H)
  · have H := H.2 c12
    refine ev_aload_n dModel_readRoad_35 rfl ?_
    refine ev_getI hok fk_Model_98 (woModel hw) (fun _ _ _ => rfl) dModel_readRoad_36 ?_
    refine ev_iconst (5) dModel_readRoad_39 (by decide) ?_
    refine ev_icmp_ne 65 dModel_readRoad_40 (by decide) (fun c13 => ?_) (fun c13 => ?_)
    · have H := H.1 c13
      exact ev_sub [(0, .ref o), (1, .int (((24 * (I o 35)) + (I (o + 6) ((I o 35) : Int32).toNatClampNeg))))] rfl (sModel_readRoad_65 o n sh Rf I10 L11 post ((24 * (I o 35)) + (I (o + 6) ((I o 35) : Int32).toNatClampNeg)) hok hw H)
    · have H := H.2 c13
      refine ev_aload_n dModel_readRoad_43 rfl ?_
      refine ev_getI hok fk_Model_108 (woModel hw) (fun _ _ _ => rfl) dModel_readRoad_44 ?_
      refine ev_aload_n dModel_readRoad_47 rfl ?_
      refine ev_getR hok fk_Model_199 (woModel hw) (fun _ _ _ => rfl) (wrModel_19 hw) dModel_readRoad_48 ?_
      refine ev_iload_n dModel_readRoad_51 rfl ?_
      obtain ⟨h14, H⟩ := H
      refine ev_iald hok (waModel_19 hw) h14 dModel_readRoad_52 ?_
      refine ev_icmp_ne 65 dModel_readRoad_53 (by decide) (fun c15 => ?_) (fun c15 => ?_)
      · have H := H.1 c15
        exact ev_sub [(0, .ref o), (1, .int (((24 * (I o 35)) + (I (o + 6) ((I o 35) : Int32).toNatClampNeg))))] rfl (sModel_readRoad_65 o n sh Rf I10 L11 post ((24 * (I o 35)) + (I (o + 6) ((I o 35) : Int32).toNatClampNeg)) hok hw H)
      · have H := H.2 c15
        refine ev_aload_n dModel_readRoad_56 rfl ?_
        refine ev_iconst (4) dModel_readRoad_57 (by decide) ?_
        refine ev_aload_n dModel_readRoad_58 rfl ?_
        refine ev_getI hok fk_Model_95 (woModel hw) (fun _ _ _ => rfl) dModel_readRoad_59 ?_
        refine ev_callV [.int 4, .int ((I10 o 6))] [] (B' := (0, 0)) (B'' := (0, 0)) hok mmModel_fails mk_Model_122 (ci := 12) rfl rfl (woModel hw) rfl (Nat.le_of_ble_eq_true rfl) rfl (Nat.le_of_ble_eq_true rfl) dModel_readRoad_62 rfl (by decide) H (fun v τ p16 => ?_)
        obtain ⟨I18, L19, rfl, rfl, H⟩ := p16
        exact ev_sub [(0, .ref o), (1, .int (((24 * (I o 35)) + (I (o + 6) ((I o 35) : Int32).toNatClampNeg))))] rfl (sModel_readRoad_65 o n sh Rf I18 L19 post ((24 * (I o 35)) + (I (o + 6) ((I o 35) : Int32).toNatClampNeg)) hok hw H)
def fModel_readTown_0 (D : va_G) (cA : FieldType → ClassId) (b : Nat) (E : State → Prop) (o : Nat) (n : Nat) (sh : Nat → qC) (Rf : Nat → Nat → Option Nat) (I : Nat → Nat → Int32) (L : Nat → Nat → Int64) (post : Option Value → qS → Prop)  : Prop :=
  vp_in (I o 35) 2 ∧ Ev (qGG D cA b E) mModel_newName 4 (0, 0) 0 (lv_args 0 [.ref o]) [] (n, sh, Rf, I, L) (fun v τ => ∃ (r3 : Int64) (I4 : Nat → Nat → Int32) (L5 : Nat → Nat → Int64), v = some (.long r3) ∧ τ = (n, sh, Rf, I4, L5) ∧ vp_in ((5 * (I o 35)) + (I (o + 9) ((I o 35) : Int32).toNatClampNeg)) 10 ∧ ∀ L6 : Nat → Nat → Int64, q_u L5 (o + 5) (((5 * (I o 35)) + (I (o + 9) ((I o 35) : Int32).toNatClampNeg)) : Int32).toNatClampNeg r3 = L6 → Ev (qGG D cA b E) mModel_point 4 (0, 0) 0 (lv_args 0 [.ref o]) [] (n, sh, Rf, I4, L6) (fun v τ => ∃ (r9 : Int32) (I10 : Nat → Nat → Int32) (L11 : Nat → Nat → Int64), v = some (.int r9) ∧ τ = (n, sh, Rf, I10, L11) ∧ vp_in ((5 * (I o 35)) + (I (o + 9) ((I o 35) : Int32).toNatClampNeg)) 10 ∧ ∀ I12 : Nat → Nat → Int32, q_u I10 (o + 19) (((5 * (I o 35)) + (I (o + 9) ((I o 35) : Int32).toNatClampNeg)) : Int32).toNatClampNeg r9 = I12 → Ev (qGG D cA b E) mModel_isWord 0 (0, 0) 0 (lv_args 0 [.ref o, .long 28518]) [] (n, sh, Rf, I12, L11) (fun v τ => ∃ (r15 : Int32) (I16 : Nat → Nat → Int32) (L17 : Nat → Nat → Int64), v = some (.int r15) ∧ τ = (n, sh, Rf, I16, L17) ∧ Ev (qGG D cA b E) mModel_must 3 (0, 0) 0 (lv_args 0 [.ref o, .int r15]) [] (n, sh, Rf, I16, L17) (fun v τ => ∃ (I20 : Nat → Nat → Int32) (L21 : Nat → Nat → Int64), v = none ∧ τ = (n, sh, Rf, I20, L21) ∧ Ev (qGG D cA b E) mModel_numeral 3 (0, 0) 0 (lv_args 0 [.ref o, .int 0, .int 4]) [] (n, sh, Rf, I20, L21) (fun v τ => ∃ (r23 : Int32) (I24 : Nat → Nat → Int32) (L25 : Nat → Nat → Int64), v = some (.int r23) ∧ τ = (n, sh, Rf, I24, L25) ∧ vp_in ((5 * (I o 35)) + (I (o + 9) ((I o 35) : Int32).toNatClampNeg)) 10 ∧ ∀ I26 : Nat → Nat → Int32, q_u I24 (o + 20) (((5 * (I o 35)) + (I (o + 9) ((I o 35) : Int32).toNatClampNeg)) : Int32).toNatClampNeg r23 = I26 → Ev (qGG D cA b E) mModel_isWord 0 (0, 0) 0 (lv_args 0 [.ref o, .long 512735736947]) [] (n, sh, Rf, I26, L25) (fun v τ => ∃ (r29 : Int32) (I30 : Nat → Nat → Int32) (L31 : Nat → Nat → Int64), v = some (.int r29) ∧ τ = (n, sh, Rf, I30, L31) ∧ Ev (qGG D cA b E) mModel_must 3 (0, 0) 0 (lv_args 0 [.ref o, .int r29]) [] (n, sh, Rf, I30, L31) (fun v τ => ∃ (I34 : Nat → Nat → Int32) (L35 : Nat → Nat → Int64), v = none ∧ τ = (n, sh, Rf, I34, L35) ∧ Ev (qGG D cA b E) mModel_numeral 3 (0, 0) 0 (lv_args 0 [.ref o, .int 0, .int 999]) [] (n, sh, Rf, I34, L35) (fun v τ => ∃ (r37 : Int32) (I38 : Nat → Nat → Int32) (L39 : Nat → Nat → Int64), v = some (.int r37) ∧ τ = (n, sh, Rf, I38, L39) ∧ vp_in ((5 * (I o 35)) + (I (o + 9) ((I o 35) : Int32).toNatClampNeg)) 10 ∧ ∀ I40 : Nat → Nat → Int32, q_u I38 (o + 21) (((5 * (I o 35)) + (I (o + 9) ((I o 35) : Int32).toNatClampNeg)) : Int32).toNatClampNeg r37 = I40 → Ev (qGG D cA b E) mModel_isWord 0 (0, 0) 0 (lv_args 0 [.ref o, .long 482955846501]) [] (n, sh, Rf, I40, L39) (fun v τ => ∃ (r43 : Int32) (I44 : Nat → Nat → Int32) (L45 : Nat → Nat → Int64), v = some (.int r43) ∧ τ = (n, sh, Rf, I44, L45) ∧ Ev (qGG D cA b E) mModel_must 3 (0, 0) 0 (lv_args 0 [.ref o, .int r43]) [] (n, sh, Rf, I44, L45) (fun v τ => ∃ (I48 : Nat → Nat → Int32) (L49 : Nat → Nat → Int64), v = none ∧ τ = (n, sh, Rf, I48, L49) ∧ Ev (qGG D cA b E) mModel_numeral 3 (0, 0) 0 (lv_args 0 [.ref o, .int 1, .int 999]) [] (n, sh, Rf, I48, L49) (fun v τ => ∃ (r51 : Int32) (I52 : Nat → Nat → Int32) (L53 : Nat → Nat → Int64), v = some (.int r51) ∧ τ = (n, sh, Rf, I52, L53) ∧ vp_in ((5 * (I o 35)) + (I (o + 9) ((I o 35) : Int32).toNatClampNeg)) 10 ∧ ∀ I54 : Nat → Nat → Int32, q_u I52 (o + 22) (((5 * (I o 35)) + (I (o + 9) ((I o 35) : Int32).toNatClampNeg)) : Int32).toNatClampNeg r51 = I54 → Ev (qGG D cA b E) mModel_isWord 0 (0, 0) 0 (lv_args 0 [.ref o, .long 444300618094]) [] (n, sh, Rf, I54, L53) (fun v τ => ∃ (r57 : Int32) (I58 : Nat → Nat → Int32) (L59 : Nat → Nat → Int64), v = some (.int r57) ∧ τ = (n, sh, Rf, I58, L59) ∧ Ev (qGG D cA b E) mModel_must 3 (0, 0) 0 (lv_args 0 [.ref o, .int r57]) [] (n, sh, Rf, I58, L59) (fun v τ => ∃ (I62 : Nat → Nat → Int32) (L63 : Nat → Nat → Int64), v = none ∧ τ = (n, sh, Rf, I62, L63) ∧ Ev (qGG D cA b E) mModel_numeral 3 (0, 0) 0 (lv_args 0 [.ref o, .int 0, .int 999]) [] (n, sh, Rf, I62, L63) (fun v τ => ∃ (r65 : Int32) (I66 : Nat → Nat → Int32) (L67 : Nat → Nat → Int64), v = some (.int r65) ∧ τ = (n, sh, Rf, I66, L67) ∧ vp_in ((5 * (I o 35)) + (I (o + 9) ((I o 35) : Int32).toNatClampNeg)) 10 ∧ ∀ I68 : Nat → Nat → Int32, q_u I66 (o + 23) (((5 * (I o 35)) + (I (o + 9) ((I o 35) : Int32).toNatClampNeg)) : Int32).toNatClampNeg r65 = I68 → Ev (qGG D cA b E) mModel_isWord 0 (0, 0) 0 (lv_args 0 [.ref o, .long 1668248436]) [] (n, sh, Rf, I68, L67) (fun v τ => ∃ (r71 : Int32) (I72 : Nat → Nat → Int32) (L73 : Nat → Nat → Int64), v = some (.int r71) ∧ τ = (n, sh, Rf, I72, L73) ∧ Ev (qGG D cA b E) mModel_must 3 (0, 0) 0 (lv_args 0 [.ref o, .int r71]) [] (n, sh, Rf, I72, L73) (fun v τ => ∃ (I76 : Nat → Nat → Int32) (L77 : Nat → Nat → Int64), v = none ∧ τ = (n, sh, Rf, I76, L77) ∧ Ev (qGG D cA b E) mModel_numeral 3 (0, 0) 0 (lv_args 0 [.ref o, .int 1, .int 99]) [] (n, sh, Rf, I76, L77) (fun v τ => ∃ (r79 : Int32) (I80 : Nat → Nat → Int32) (L81 : Nat → Nat → Int64), v = some (.int r79) ∧ τ = (n, sh, Rf, I80, L81) ∧ vp_in ((5 * (I o 35)) + (I (o + 9) ((I o 35) : Int32).toNatClampNeg)) 10 ∧ ∀ I82 : Nat → Nat → Int32, q_u I80 (o + 24) (((5 * (I o 35)) + (I (o + 9) ((I o 35) : Int32).toNatClampNeg)) : Int32).toNatClampNeg r79 = I82 → Ev (qGG D cA b E) mModel_isGood 0 (0, 0) 0 (lv_args 0 [.ref o]) [] (n, sh, Rf, I82, L81) (fun v τ => ∃ (r85 : Int32) (I86 : Nat → Nat → Int32) (L87 : Nat → Nat → Int64), v = some (.int r85) ∧ τ = (n, sh, Rf, I86, L87) ∧ ((r85 = 0 → post none (n, sh, Rf, I86, L87)) ∧ (¬ r85 = 0 → vp_in (I86 o 35) 2 ∧ vp_in (I86 o 35) 2 ∧ ∀ I90 : Nat → Nat → Int32, q_u I86 (o + 9) ((I86 o 35) : Int32).toNatClampNeg ((I86 (o + 9) ((I86 o 35) : Int32).toNatClampNeg) + 1) = I90 → post none (n, sh, Rf, I90, L87)))))))))))))))))))))
set_option maxHeartbeats 4000000 in
set_option maxRecDepth 20000 in
theorem sModel_readTown_0 {D : va_G} {cA : FieldType → ClassId} {b : Nat} {E : State → Prop} (o : Nat) (n : Nat) (sh : Nat → qC) (Rf : Nat → Nat → Option Nat) (I : Nat → Nat → Int32) (L : Nat → Nat → Int64) (post : Option Value → qS → Prop)  (hok : q_ok (qGG D cA b E)) (hw : WfModel (qGG D cA b E) n sh Rf o) (H : fModel_readTown_0 D cA b E o n sh Rf I L post ) : Ev (qGG D cA b E) mModel_readTown 5 (0, 0) 0 [(0, .ref o)] [] (n, sh, Rf, I, L) post := by
  unfold fModel_readTown_0 at H
  refine ev_iconst (5) dModel_readTown_0 (by decide) ?_
  refine ev_aload_n dModel_readTown_1 rfl ?_
  refine ev_getI hok fk_Model_150 (woModel hw) (fun _ _ _ => rfl) dModel_readTown_2 ?_
  refine ev_imul dModel_readTown_5 ?_
  refine ev_aload_n dModel_readTown_6 rfl ?_
  refine ev_getR hok fk_Model_163 (woModel hw) (fun _ _ _ => rfl) (wrModel_18 hw) dModel_readTown_7 ?_
  refine ev_aload_n dModel_readTown_10 rfl ?_
  refine ev_getI hok fk_Model_150 (woModel hw) (fun _ _ _ => rfl) dModel_readTown_11 ?_
  obtain ⟨h1, H⟩ := H
  refine ev_iald hok (waModel_18 hw) h1 dModel_readTown_14 ?_
  refine ev_iadd dModel_readTown_15 ?_
  refine ev_istore_n dModel_readTown_16 (by decide) ?_
  refine ev_aload_n dModel_readTown_17 rfl ?_
  refine ev_getR hok fk_Model_223 (woModel hw) (fun _ _ _ => rfl) (wrModel_14 hw) dModel_readTown_18 ?_
  refine ev_iload_n dModel_readTown_21 rfl ?_
  refine ev_aload_n dModel_readTown_22 rfl ?_
  refine ev_callV [] [.int (((5 * (I o 35)) + (I (o + 9) ((I o 35) : Int32).toNatClampNeg))), .ref ((o + 5))] (B' := (0, 0)) (B'' := (0, 0)) hok mmModel_newName mk_Model_229 (ci := 12) rfl rfl (woModel hw) rfl (Nat.le_of_ble_eq_true rfl) rfl (Nat.le_of_ble_eq_true rfl) dModel_readTown_23 rfl (by decide) H (fun v τ p2 => ?_)
  obtain ⟨r3, I4, L5, rfl, rfl, H⟩ := p2
  obtain ⟨h7, H⟩ := H
  refine ev_last hok (waModel_14 hw) h7 dModel_readTown_26 ?_
  generalize eL6 : q_u L5 (o + 5) (((5 * (I o 35)) + (I (o + 9) ((I o 35) : Int32).toNatClampNeg)) : Int32).toNatClampNeg r3 = L6
  have H := H L6 eL6
  refine ev_aload_n dModel_readTown_27 rfl ?_
  refine ev_getR hok fk_Model_251 (woModel hw) (fun _ _ _ => rfl) (wrModel_28 hw) dModel_readTown_28 ?_
  refine ev_iload_n dModel_readTown_31 rfl ?_
  refine ev_aload_n dModel_readTown_32 rfl ?_
  refine ev_callV [] [.int (((5 * (I o 35)) + (I (o + 9) ((I o 35) : Int32).toNatClampNeg))), .ref ((o + 19))] (B' := (0, 0)) (B'' := (0, 0)) hok mmModel_point mk_Model_202 (ci := 12) rfl rfl (woModel hw) rfl (Nat.le_of_ble_eq_true rfl) rfl (Nat.le_of_ble_eq_true rfl) dModel_readTown_33 rfl (by decide) H (fun v τ p8 => ?_)
  obtain ⟨r9, I10, L11, rfl, rfl, H⟩ := p8
  obtain ⟨h13, H⟩ := H
  refine ev_iast hok (waModel_28 hw) h13 dModel_readTown_36 ?_
  generalize eI12 : q_u I10 (o + 19) (((5 * (I o 35)) + (I (o + 9) ((I o 35) : Int32).toNatClampNeg)) : Int32).toNatClampNeg r9 = I12
  have H := H I12 eI12
  refine ev_aload_n dModel_readTown_37 rfl ?_
  refine ev_aload_n dModel_readTown_38 rfl ?_
  refine ev_ldc2 (28518) dModel_readTown_39 (q_t7 1 (by decide +kernel) rfl) ?_
  refine ev_callV [.long 28518] [.ref o] (B' := (0, 0)) (B'' := (0, 0)) hok mmModel_isWord mk_Model_178 (ci := 12) rfl rfl (woModel hw) rfl (Nat.le_of_ble_eq_true rfl) rfl (Nat.le_of_ble_eq_true rfl) dModel_readTown_42 rfl (by decide) H (fun v τ p14 => ?_)
  obtain ⟨r15, I16, L17, rfl, rfl, H⟩ := p14
  refine ev_callV [.int r15] [] (B' := (0, 0)) (B'' := (0, 0)) hok mmModel_must mk_Model_196 (ci := 12) rfl rfl (woModel hw) rfl (Nat.le_of_ble_eq_true rfl) rfl (Nat.le_of_ble_eq_true rfl) dModel_readTown_45 rfl (by decide) H (fun v τ p18 => ?_)
  obtain ⟨I20, L21, rfl, rfl, H⟩ := p18
  refine ev_aload_n dModel_readTown_48 rfl ?_
  refine ev_getR hok fk_Model_254 (woModel hw) (fun _ _ _ => rfl) (wrModel_29 hw) dModel_readTown_49 ?_
  refine ev_iload_n dModel_readTown_52 rfl ?_
  refine ev_aload_n dModel_readTown_53 rfl ?_
  refine ev_iconst (0) dModel_readTown_54 (by decide) ?_
  refine ev_iconst (4) dModel_readTown_55 (by decide) ?_
  refine ev_callV [.int 0, .int 4] [.int (((5 * (I o 35)) + (I (o + 9) ((I o 35) : Int32).toNatClampNeg))), .ref ((o + 20))] (B' := (0, 0)) (B'' := (0, 0)) hok mmModel_numeral mk_Model_212 (ci := 12) rfl rfl (woModel hw) rfl (Nat.le_of_ble_eq_true rfl) rfl (Nat.le_of_ble_eq_true rfl) dModel_readTown_56 rfl (by decide) H (fun v τ p22 => ?_)
  obtain ⟨r23, I24, L25, rfl, rfl, H⟩ := p22
  obtain ⟨h27, H⟩ := H
  refine ev_iast hok (waModel_29 hw) h27 dModel_readTown_59 ?_
  generalize eI26 : q_u I24 (o + 20) (((5 * (I o 35)) + (I (o + 9) ((I o 35) : Int32).toNatClampNeg)) : Int32).toNatClampNeg r23 = I26
  have H := H I26 eI26
  refine ev_aload_n dModel_readTown_60 rfl ?_
  refine ev_aload_n dModel_readTown_61 rfl ?_
  refine ev_ldc2 (512735736947) dModel_readTown_62 (q_t7 2 (by decide +kernel) rfl) ?_
  refine ev_callV [.long 512735736947] [.ref o] (B' := (0, 0)) (B'' := (0, 0)) hok mmModel_isWord mk_Model_178 (ci := 12) rfl rfl (woModel hw) rfl (Nat.le_of_ble_eq_true rfl) rfl (Nat.le_of_ble_eq_true rfl) dModel_readTown_65 rfl (by decide) H (fun v τ p28 => ?_)
  obtain ⟨r29, I30, L31, rfl, rfl, H⟩ := p28
  refine ev_callV [.int r29] [] (B' := (0, 0)) (B'' := (0, 0)) hok mmModel_must mk_Model_196 (ci := 12) rfl rfl (woModel hw) rfl (Nat.le_of_ble_eq_true rfl) rfl (Nat.le_of_ble_eq_true rfl) dModel_readTown_68 rfl (by decide) H (fun v τ p32 => ?_)
  obtain ⟨I34, L35, rfl, rfl, H⟩ := p32
  refine ev_aload_n dModel_readTown_71 rfl ?_
  refine ev_getR hok fk_Model_257 (woModel hw) (fun _ _ _ => rfl) (wrModel_30 hw) dModel_readTown_72 ?_
  refine ev_iload_n dModel_readTown_75 rfl ?_
  refine ev_aload_n dModel_readTown_76 rfl ?_
  refine ev_iconst (0) dModel_readTown_77 (by decide) ?_
  refine ev_sipush (999) dModel_readTown_78 (by decide) ?_
  refine ev_callV [.int 0, .int 999] [.int (((5 * (I o 35)) + (I (o + 9) ((I o 35) : Int32).toNatClampNeg))), .ref ((o + 21))] (B' := (0, 0)) (B'' := (0, 0)) hok mmModel_numeral mk_Model_212 (ci := 12) rfl rfl (woModel hw) rfl (Nat.le_of_ble_eq_true rfl) rfl (Nat.le_of_ble_eq_true rfl) dModel_readTown_81 rfl (by decide) H (fun v τ p36 => ?_)
  obtain ⟨r37, I38, L39, rfl, rfl, H⟩ := p36
  obtain ⟨h41, H⟩ := H
  refine ev_iast hok (waModel_30 hw) h41 dModel_readTown_84 ?_
  generalize eI40 : q_u I38 (o + 21) (((5 * (I o 35)) + (I (o + 9) ((I o 35) : Int32).toNatClampNeg)) : Int32).toNatClampNeg r37 = I40
  have H := H I40 eI40
  refine ev_aload_n dModel_readTown_85 rfl ?_
  refine ev_aload_n dModel_readTown_86 rfl ?_
  refine ev_ldc2 (482955846501) dModel_readTown_87 (q_t7 3 (by decide +kernel) rfl) ?_
  refine ev_callV [.long 482955846501] [.ref o] (B' := (0, 0)) (B'' := (0, 0)) hok mmModel_isWord mk_Model_178 (ci := 12) rfl rfl (woModel hw) rfl (Nat.le_of_ble_eq_true rfl) rfl (Nat.le_of_ble_eq_true rfl) dModel_readTown_90 rfl (by decide) H (fun v τ p42 => ?_)
  obtain ⟨r43, I44, L45, rfl, rfl, H⟩ := p42
  refine ev_callV [.int r43] [] (B' := (0, 0)) (B'' := (0, 0)) hok mmModel_must mk_Model_196 (ci := 12) rfl rfl (woModel hw) rfl (Nat.le_of_ble_eq_true rfl) rfl (Nat.le_of_ble_eq_true rfl) dModel_readTown_93 rfl (by decide) H (fun v τ p46 => ?_)
  obtain ⟨I48, L49, rfl, rfl, H⟩ := p46
  refine ev_aload_n dModel_readTown_96 rfl ?_
  refine ev_getR hok fk_Model_260 (woModel hw) (fun _ _ _ => rfl) (wrModel_31 hw) dModel_readTown_97 ?_
  refine ev_iload_n dModel_readTown_100 rfl ?_
  refine ev_aload_n dModel_readTown_101 rfl ?_
  refine ev_iconst (1) dModel_readTown_102 (by decide) ?_
  refine ev_sipush (999) dModel_readTown_103 (by decide) ?_
  refine ev_callV [.int 1, .int 999] [.int (((5 * (I o 35)) + (I (o + 9) ((I o 35) : Int32).toNatClampNeg))), .ref ((o + 22))] (B' := (0, 0)) (B'' := (0, 0)) hok mmModel_numeral mk_Model_212 (ci := 12) rfl rfl (woModel hw) rfl (Nat.le_of_ble_eq_true rfl) rfl (Nat.le_of_ble_eq_true rfl) dModel_readTown_106 rfl (by decide) H (fun v τ p50 => ?_)
  obtain ⟨r51, I52, L53, rfl, rfl, H⟩ := p50
  obtain ⟨h55, H⟩ := H
  refine ev_iast hok (waModel_31 hw) h55 dModel_readTown_109 ?_
  generalize eI54 : q_u I52 (o + 22) (((5 * (I o 35)) + (I (o + 9) ((I o 35) : Int32).toNatClampNeg)) : Int32).toNatClampNeg r51 = I54
  have H := H I54 eI54
  refine ev_aload_n dModel_readTown_110 rfl ?_
  refine ev_aload_n dModel_readTown_111 rfl ?_
  refine ev_ldc2 (444300618094) dModel_readTown_112 (q_t7 4 (by decide +kernel) rfl) ?_
  refine ev_callV [.long 444300618094] [.ref o] (B' := (0, 0)) (B'' := (0, 0)) hok mmModel_isWord mk_Model_178 (ci := 12) rfl rfl (woModel hw) rfl (Nat.le_of_ble_eq_true rfl) rfl (Nat.le_of_ble_eq_true rfl) dModel_readTown_115 rfl (by decide) H (fun v τ p56 => ?_)
  obtain ⟨r57, I58, L59, rfl, rfl, H⟩ := p56
  refine ev_callV [.int r57] [] (B' := (0, 0)) (B'' := (0, 0)) hok mmModel_must mk_Model_196 (ci := 12) rfl rfl (woModel hw) rfl (Nat.le_of_ble_eq_true rfl) rfl (Nat.le_of_ble_eq_true rfl) dModel_readTown_118 rfl (by decide) H (fun v τ p60 => ?_)
  obtain ⟨I62, L63, rfl, rfl, H⟩ := p60
  refine ev_aload_n dModel_readTown_121 rfl ?_
  refine ev_getR hok fk_Model_263 (woModel hw) (fun _ _ _ => rfl) (wrModel_32 hw) dModel_readTown_122 ?_
  refine ev_iload_n dModel_readTown_125 rfl ?_
  refine ev_aload_n dModel_readTown_126 rfl ?_
  refine ev_iconst (0) dModel_readTown_127 (by decide) ?_
  refine ev_sipush (999) dModel_readTown_128 (by decide) ?_
  refine ev_callV [.int 0, .int 999] [.int (((5 * (I o 35)) + (I (o + 9) ((I o 35) : Int32).toNatClampNeg))), .ref ((o + 23))] (B' := (0, 0)) (B'' := (0, 0)) hok mmModel_numeral mk_Model_212 (ci := 12) rfl rfl (woModel hw) rfl (Nat.le_of_ble_eq_true rfl) rfl (Nat.le_of_ble_eq_true rfl) dModel_readTown_131 rfl (by decide) H (fun v τ p64 => ?_)
  obtain ⟨r65, I66, L67, rfl, rfl, H⟩ := p64
  obtain ⟨h69, H⟩ := H
  refine ev_iast hok (waModel_32 hw) h69 dModel_readTown_134 ?_
  generalize eI68 : q_u I66 (o + 23) (((5 * (I o 35)) + (I (o + 9) ((I o 35) : Int32).toNatClampNeg)) : Int32).toNatClampNeg r65 = I68
  have H := H I68 eI68
  refine ev_aload_n dModel_readTown_135 rfl ?_
  refine ev_aload_n dModel_readTown_136 rfl ?_
  refine ev_ldc2 (1668248436) dModel_readTown_137 (q_t7 5 (by decide +kernel) rfl) ?_
  refine ev_callV [.long 1668248436] [.ref o] (B' := (0, 0)) (B'' := (0, 0)) hok mmModel_isWord mk_Model_178 (ci := 12) rfl rfl (woModel hw) rfl (Nat.le_of_ble_eq_true rfl) rfl (Nat.le_of_ble_eq_true rfl) dModel_readTown_140 rfl (by decide) H (fun v τ p70 => ?_)
  obtain ⟨r71, I72, L73, rfl, rfl, H⟩ := p70
  refine ev_callV [.int r71] [] (B' := (0, 0)) (B'' := (0, 0)) hok mmModel_must mk_Model_196 (ci := 12) rfl rfl (woModel hw) rfl (Nat.le_of_ble_eq_true rfl) rfl (Nat.le_of_ble_eq_true rfl) dModel_readTown_143 rfl (by decide) H (fun v τ p74 => ?_)
  obtain ⟨I76, L77, rfl, rfl, H⟩ := p74
  refine ev_aload_n dModel_readTown_146 rfl ?_
  refine ev_getR hok fk_Model_266 (woModel hw) (fun _ _ _ => rfl) (wrModel_33 hw) dModel_readTown_147 ?_
  refine ev_iload_n dModel_readTown_150 rfl ?_
  refine ev_aload_n dModel_readTown_151 rfl ?_
  refine ev_iconst (1) dModel_readTown_152 (by decide) ?_
  refine ev_bipush (99) dModel_readTown_153 (by decide) ?_
  refine ev_callV [.int 1, .int 99] [.int (((5 * (I o 35)) + (I (o + 9) ((I o 35) : Int32).toNatClampNeg))), .ref ((o + 24))] (B' := (0, 0)) (B'' := (0, 0)) hok mmModel_numeral mk_Model_212 (ci := 12) rfl rfl (woModel hw) rfl (Nat.le_of_ble_eq_true rfl) rfl (Nat.le_of_ble_eq_true rfl) dModel_readTown_155 rfl (by decide) H (fun v τ p78 => ?_)
  obtain ⟨r79, I80, L81, rfl, rfl, H⟩ := p78
  obtain ⟨h83, H⟩ := H
  refine ev_iast hok (waModel_33 hw) h83 dModel_readTown_158 ?_
  generalize eI82 : q_u I80 (o + 24) (((5 * (I o 35)) + (I (o + 9) ((I o 35) : Int32).toNatClampNeg)) : Int32).toNatClampNeg r79 = I82
  have H := H I82 eI82
  refine ev_aload_n dModel_readTown_159 rfl ?_
  refine ev_callV [] [] (B' := (0, 0)) (B'' := (0, 0)) hok mmModel_isGood mk_Model_126 (ci := 12) rfl rfl (woModel hw) rfl (Nat.le_of_ble_eq_true rfl) rfl (Nat.le_of_ble_eq_true rfl) dModel_readTown_160 rfl (by decide) H (fun v τ p84 => ?_)
  obtain ⟨r85, I86, L87, rfl, rfl, H⟩ := p84
  refine ev_if_eq 179 dModel_readTown_163 (by decide) (fun c88 => ?_) (fun c88 => ?_)
  · have H := H.1 c88
    exact ev_vret rfl dModel_readTown_179 H
  · have H := H.2 c88
    refine ev_aload_n dModel_readTown_166 rfl ?_
    refine ev_getR hok fk_Model_163 (woModel hw) (fun _ _ _ => rfl) (wrModel_18 hw) dModel_readTown_167 ?_
    refine ev_aload_n dModel_readTown_170 rfl ?_
    refine ev_getI hok fk_Model_150 (woModel hw) (fun _ _ _ => rfl) dModel_readTown_171 ?_
    refine ev_dup2_11 dModel_readTown_174 rfl rfl ?_
    obtain ⟨h89, H⟩ := H
    refine ev_iald hok (waModel_18 hw) h89 dModel_readTown_175 ?_
    refine ev_iconst (1) dModel_readTown_176 (by decide) ?_
    refine ev_iadd dModel_readTown_177 ?_
    obtain ⟨h91, H⟩ := H
    refine ev_iast hok (waModel_18 hw) h91 dModel_readTown_178 ?_
    generalize eI90 : q_u I86 (o + 9) ((I86 o 35) : Int32).toNatClampNeg ((I86 (o + 9) ((I86 o 35) : Int32).toNatClampNeg) + 1) = I90
    have H := H I90 eI90
    exact ev_vret rfl dModel_readTown_179 H
def fModel_rateFor_43 (D : va_G) (cA : FieldType → ClassId) (b : Nat) (E : State → Prop) (o : Nat) (n : Nat) (sh : Nat → qC) (Rf : Nat → Nat → Option Nat) (I : Nat → Nat → Int32) (L : Nat → Nat → Int64) (post : Option Value → qS → Prop) (x1 : Int32) (x2 : Int32) (x3 : Int32) (z0 : Int32) : Prop :=
  ∀ I1 : Nat → Nat → Int32, q_u I o 52 z0 = I1 → ∀ I2 : Nat → Nat → Int32, q_u I1 o 53 x2 = I2 → Ev (qGG D cA b E) mModel_bounded 5 (0, 0) 0 (lv_args 0 [.ref o, .int ((I2 o 106)), .int 0]) [] (n, sh, Rf, I2, L) (fun v τ => ∃ (r4 : Int32) (I5 : Nat → Nat → Int32) (L6 : Nat → Nat → Int64), v = some (.int r4) ∧ τ = (n, sh, Rf, I5, L6) ∧ post (some (.int r4)) (n, sh, Rf, I5, L6))
set_option maxHeartbeats 4000000 in
set_option maxRecDepth 20000 in
theorem sModel_rateFor_43 {D : va_G} {cA : FieldType → ClassId} {b : Nat} {E : State → Prop} (o : Nat) (n : Nat) (sh : Nat → qC) (Rf : Nat → Nat → Option Nat) (I : Nat → Nat → Int32) (L : Nat → Nat → Int64) (post : Option Value → qS → Prop) (x1 : Int32) (x2 : Int32) (x3 : Int32) (z0 : Int32) (hok : q_ok (qGG D cA b E)) (hw : WfModel (qGG D cA b E) n sh Rf o) (H : fModel_rateFor_43 D cA b E o n sh Rf I L post x1 x2 x3 z0) : Ev (qGG D cA b E) mModel_rateFor 6 (0, 0) 43 [(0, .ref o), (1, .int x1), (2, .int x2), (3, .int x3)] [.int z0, .ref o] (n, sh, Rf, I, L) post := by
  unfold fModel_rateFor_43 at H
  refine ev_putI hok fk_Model_360 (woModel hw) (fun _ _ _ => rfl) rfl rfl dModel_rateFor_43 ?_
  generalize eI1 : q_u I o 52 z0 = I1
  have H := H I1 eI1
  refine ev_aload_n dModel_rateFor_46 rfl ?_
  refine ev_iload_n dModel_rateFor_47 rfl ?_
  refine ev_putI hok fk_Model_363 (woModel hw) (fun _ _ _ => rfl) rfl rfl dModel_rateFor_48 ?_
  generalize eI2 : q_u I1 o 53 x2 = I2
  have H := H I2 eI2
  refine ev_aload_n dModel_rateFor_51 rfl ?_
  refine ev_aload_n dModel_rateFor_52 rfl ?_
  refine ev_getI hok fk_Model_516 (woModel hw) (fun _ _ _ => rfl) dModel_rateFor_53 ?_
  refine ev_iconst (0) dModel_rateFor_56 (by decide) ?_
  refine ev_callV [.int ((I2 o 106)), .int 0] [] (B' := (0, 0)) (B'' := (0, 0)) hok mmModel_bounded mk_Model_519 (ci := 12) rfl rfl (woModel hw) rfl (Nat.le_of_ble_eq_true rfl) rfl (Nat.le_of_ble_eq_true rfl) dModel_rateFor_57 rfl (by decide) H (fun v τ p3 => ?_)
  obtain ⟨r4, I5, L6, rfl, rfl, H⟩ := p3
  exact ev_iret rfl dModel_rateFor_60 H
def fModel_rateFor_0 (D : va_G) (cA : FieldType → ClassId) (b : Nat) (E : State → Prop) (o : Nat) (n : Nat) (sh : Nat → qC) (Rf : Nat → Nat → Option Nat) (I : Nat → Nat → Int32) (L : Nat → Nat → Int64) (post : Option Value → qS → Prop) (x1 : Int32) (x2 : Int32) : Prop :=
  vp_in x1 3 ∧ ∀ I2 : Nat → Nat → Int32, q_u I o 51 (I (o + 42) (x1 : Int32).toNatClampNeg) = I2 → vp_in ((3 * (I2 o 34)) + x1) 6 ∧ ((¬ (I2 (o + 14) (((3 * (I2 o 34)) + x1) : Int32).toNatClampNeg) = 0 → vp_in x1 3 ∧ (¬ ((I2 (o + 14) (((3 * (I2 o 34)) + x1) : Int32).toNatClampNeg) : Int32) = 0) ∧ fModel_rateFor_43 D cA b E o n sh Rf I2 L post x1 x2 (I2 (o + 14) (((3 * (I2 o 34)) + x1) : Int32).toNatClampNeg) ((I2 (o + 42) (x1 : Int32).toNatClampNeg) / (I2 (o + 14) (((3 * (I2 o 34)) + x1) : Int32).toNatClampNeg))) ∧ ((I2 (o + 14) (((3 * (I2 o 34)) + x1) : Int32).toNatClampNeg) = 0 → fModel_rateFor_43 D cA b E o n sh Rf I2 L post x1 x2 (I2 (o + 14) (((3 * (I2 o 34)) + x1) : Int32).toNatClampNeg) 9999))
set_option maxHeartbeats 4000000 in
set_option maxRecDepth 20000 in
theorem sModel_rateFor_0 {D : va_G} {cA : FieldType → ClassId} {b : Nat} {E : State → Prop} (o : Nat) (n : Nat) (sh : Nat → qC) (Rf : Nat → Nat → Option Nat) (I : Nat → Nat → Int32) (L : Nat → Nat → Int64) (post : Option Value → qS → Prop) (x1 : Int32) (x2 : Int32) (hok : q_ok (qGG D cA b E)) (hw : WfModel (qGG D cA b E) n sh Rf o) (H : fModel_rateFor_0 D cA b E o n sh Rf I L post x1 x2) : Ev (qGG D cA b E) mModel_rateFor 6 (0, 0) 0 [(0, .ref o), (1, .int x1), (2, .int x2)] [] (n, sh, Rf, I, L) post := by
  unfold fModel_rateFor_0 at H
  refine ev_aload_n dModel_rateFor_0 rfl ?_
  refine ev_aload_n dModel_rateFor_1 rfl ?_
  refine ev_getR hok fk_Model_513 (woModel hw) (fun _ _ _ => rfl) (wrModel_75 hw) dModel_rateFor_2 ?_
  refine ev_iload_n dModel_rateFor_5 rfl ?_
  obtain ⟨h1, H⟩ := H
  refine ev_iald hok (waModel_75 hw) h1 dModel_rateFor_6 ?_
  refine ev_putI hok fk_Model_357 (woModel hw) (fun _ _ _ => rfl) rfl rfl dModel_rateFor_7 ?_
  generalize eI2 : q_u I o 51 (I (o + 42) (x1 : Int32).toNatClampNeg) = I2
  have H := H I2 eI2
  refine ev_aload_n dModel_rateFor_10 rfl ?_
  refine ev_getR hok fk_Model_236 (woModel hw) (fun _ _ _ => rfl) (wrModel_23 hw) dModel_rateFor_11 ?_
  refine ev_iconst (3) dModel_rateFor_14 (by decide) ?_
  refine ev_aload_n dModel_rateFor_15 rfl ?_
  refine ev_getI hok fk_Model_147 (woModel hw) (fun _ _ _ => rfl) dModel_rateFor_16 ?_
  refine ev_imul dModel_rateFor_19 ?_
  refine ev_iload_n dModel_rateFor_20 rfl ?_
  refine ev_iadd dModel_rateFor_21 ?_
  obtain ⟨h3, H⟩ := H
  refine ev_iald hok (waModel_23 hw) h3 dModel_rateFor_22 ?_
  refine ev_istore_n dModel_rateFor_23 (by decide) ?_
  refine ev_aload_n dModel_rateFor_24 rfl ?_
  refine ev_iload_n dModel_rateFor_25 rfl ?_
  refine ev_if_ne 35 dModel_rateFor_26 (by decide) (fun c4 => ?_) (fun c4 => ?_)
  · have H := H.1 c4
    refine ev_aload_n dModel_rateFor_35 rfl ?_
    refine ev_getR hok fk_Model_513 (woModel hw) (fun _ _ _ => rfl) (wrModel_75 hw) dModel_rateFor_36 ?_
    refine ev_iload_n dModel_rateFor_39 rfl ?_
    obtain ⟨h5, H⟩ := H
    refine ev_iald hok (waModel_75 hw) h5 dModel_rateFor_40 ?_
    refine ev_iload_n dModel_rateFor_41 rfl ?_
    obtain ⟨h6, H⟩ := H
    refine ev_idiv dModel_rateFor_42 h6 ?_
    exact ev_sub [(0, .ref o), (1, .int x1), (2, .int x2), (3, .int ((I2 (o + 14) (((3 * (I2 o 34)) + x1) : Int32).toNatClampNeg)))] rfl (sModel_rateFor_43 o n sh Rf I2 L post x1 x2 (I2 (o + 14) (((3 * (I2 o 34)) + x1) : Int32).toNatClampNeg) ((I2 (o + 42) (x1 : Int32).toNatClampNeg) / (I2 (o + 14) (((3 * (I2 o 34)) + x1) : Int32).toNatClampNeg)) hok hw H)
  · have H := H.2 c4
    refine ev_sipush (9999) dModel_rateFor_29 (by decide) ?_
    refine ev_goto 43 dModel_rateFor_32 (by decide) ?_
    exact ev_sub [(0, .ref o), (1, .int x1), (2, .int x2), (3, .int ((I2 (o + 14) (((3 * (I2 o 34)) + x1) : Int32).toNatClampNeg)))] rfl (sModel_rateFor_43 o n sh Rf I2 L post x1 x2 (I2 (o + 14) (((3 * (I2 o 34)) + x1) : Int32).toNatClampNeg) 9999 hok hw H)
def fModel_readLine_128 (D : va_G) (cA : FieldType → ClassId) (b : Nat) (E : State → Prop) (o : Nat) (n : Nat) (sh : Nat → qC) (Rf : Nat → Nat → Option Nat) (I : Nat → Nat → Int32) (L : Nat → Nat → Int64) (post : Option Value → qS → Prop) (x1 : Int32) (x2 : Int32) (x3 : Int32) (z0 : Int32) : Prop :=
  ((z0 = 0 → Ev (qGG D cA b E) mModel_isGood 0 (0, 0) 0 (lv_args 0 [.ref o]) [] (n, sh, Rf, I, L) (fun v τ => ∃ (r3 : Int32) (I4 : Nat → Nat → Int32) (L5 : Nat → Nat → Int64), v = some (.int r3) ∧ τ = (n, sh, Rf, I4, L5) ∧ ((¬ r3 = 0 → Ev (qGG D cA b E) mModel_next 2 (0, 0) 0 (lv_args 0 [.ref o]) [] (n, sh, Rf, I4, L5) (fun v τ => ∃ (I9 : Nat → Nat → Int32) (L10 : Nat → Nat → Int64), v = none ∧ τ = (n, sh, Rf, I9, L10) ∧ ((x1 = 0 → ((x2 = 0 → ((x3 = 0 → Ev (qGG D cA b E) mModel_readTown 5 (0, 0) 0 (lv_args 0 [.ref o]) [] (n, sh, Rf, I9, L10) (fun v τ => ∃ (I16 : Nat → Nat → Int32) (L17 : Nat → Nat → Int64), v = none ∧ τ = (n, sh, Rf, I16, L17) ∧ Ev (qGG D cA b E) mModel_is 1 (0, 0) 0 (lv_args 0 [.ref o, .int 59]) [] (n, sh, Rf, I16, L17) (fun v τ => ∃ (r19 : Int32) (I20 : Nat → Nat → Int32) (L21 : Nat → Nat → Int64), v = some (.int r19) ∧ τ = (n, sh, Rf, I20, L21) ∧ Ev (qGG D cA b E) mModel_must 3 (0, 0) 0 (lv_args 0 [.ref o, .int r19]) [] (n, sh, Rf, I20, L21) (fun v τ => ∃ (I24 : Nat → Nat → Int32) (L25 : Nat → Nat → Int64), v = none ∧ τ = (n, sh, Rf, I24, L25) ∧ post none (n, sh, Rf, I24, L25))))) ∧ (¬ x3 = 0 → Ev (qGG D cA b E) mModel_readPan 5 (0, 0) 0 (lv_args 0 [.ref o]) [] (n, sh, Rf, I9, L10) (fun v τ => ∃ (I28 : Nat → Nat → Int32) (L29 : Nat → Nat → Int64), v = none ∧ τ = (n, sh, Rf, I28, L29) ∧ Ev (qGG D cA b E) mModel_is 1 (0, 0) 0 (lv_args 0 [.ref o, .int 59]) [] (n, sh, Rf, I28, L29) (fun v τ => ∃ (r31 : Int32) (I32 : Nat → Nat → Int32) (L33 : Nat → Nat → Int64), v = some (.int r31) ∧ τ = (n, sh, Rf, I32, L33) ∧ Ev (qGG D cA b E) mModel_must 3 (0, 0) 0 (lv_args 0 [.ref o, .int r31]) [] (n, sh, Rf, I32, L33) (fun v τ => ∃ (I36 : Nat → Nat → Int32) (L37 : Nat → Nat → Int64), v = none ∧ τ = (n, sh, Rf, I36, L37) ∧ post none (n, sh, Rf, I36, L37))))))) ∧ (¬ x2 = 0 → Ev (qGG D cA b E) mModel_readFort 5 (0, 0) 0 (lv_args 0 [.ref o]) [] (n, sh, Rf, I9, L10) (fun v τ => ∃ (I40 : Nat → Nat → Int32) (L41 : Nat → Nat → Int64), v = none ∧ τ = (n, sh, Rf, I40, L41) ∧ Ev (qGG D cA b E) mModel_is 1 (0, 0) 0 (lv_args 0 [.ref o, .int 59]) [] (n, sh, Rf, I40, L41) (fun v τ => ∃ (r43 : Int32) (I44 : Nat → Nat → Int32) (L45 : Nat → Nat → Int64), v = some (.int r43) ∧ τ = (n, sh, Rf, I44, L45) ∧ Ev (qGG D cA b E) mModel_must 3 (0, 0) 0 (lv_args 0 [.ref o, .int r43]) [] (n, sh, Rf, I44, L45) (fun v τ => ∃ (I48 : Nat → Nat → Int32) (L49 : Nat → Nat → Int64), v = none ∧ τ = (n, sh, Rf, I48, L49) ∧ post none (n, sh, Rf, I48, L49))))))) ∧ (¬ x1 = 0 → Ev (qGG D cA b E) mModel_readRoad 5 (0, 0) 0 (lv_args 0 [.ref o]) [] (n, sh, Rf, I9, L10) (fun v τ => ∃ (I52 : Nat → Nat → Int32) (L53 : Nat → Nat → Int64), v = none ∧ τ = (n, sh, Rf, I52, L53) ∧ Ev (qGG D cA b E) mModel_is 1 (0, 0) 0 (lv_args 0 [.ref o, .int 59]) [] (n, sh, Rf, I52, L53) (fun v τ => ∃ (r55 : Int32) (I56 : Nat → Nat → Int32) (L57 : Nat → Nat → Int64), v = some (.int r55) ∧ τ = (n, sh, Rf, I56, L57) ∧ Ev (qGG D cA b E) mModel_must 3 (0, 0) 0 (lv_args 0 [.ref o, .int r55]) [] (n, sh, Rf, I56, L57) (fun v τ => ∃ (I60 : Nat → Nat → Int32) (L61 : Nat → Nat → Int64), v = none ∧ τ = (n, sh, Rf, I60, L61) ∧ post none (n, sh, Rf, I60, L61)))))))) ∧ (r3 = 0 → post none (n, sh, Rf, I4, L5))))) ∧ (¬ z0 = 0 → Ev (qGG D cA b E) mModel_wrong 1 (0, 0) 0 (lv_args 0 [.ref o]) [] (n, sh, Rf, I, L) (fun v τ => ∃ (I64 : Nat → Nat → Int32) (L65 : Nat → Nat → Int64), v = none ∧ τ = (n, sh, Rf, I64, L65) ∧ Ev (qGG D cA b E) mModel_isGood 0 (0, 0) 0 (lv_args 0 [.ref o]) [] (n, sh, Rf, I64, L65) (fun v τ => ∃ (r67 : Int32) (I68 : Nat → Nat → Int32) (L69 : Nat → Nat → Int64), v = some (.int r67) ∧ τ = (n, sh, Rf, I68, L69) ∧ ((¬ r67 = 0 → Ev (qGG D cA b E) mModel_next 2 (0, 0) 0 (lv_args 0 [.ref o]) [] (n, sh, Rf, I68, L69) (fun v τ => ∃ (I73 : Nat → Nat → Int32) (L74 : Nat → Nat → Int64), v = none ∧ τ = (n, sh, Rf, I73, L74) ∧ ((x1 = 0 → ((x2 = 0 → ((x3 = 0 → Ev (qGG D cA b E) mModel_readTown 5 (0, 0) 0 (lv_args 0 [.ref o]) [] (n, sh, Rf, I73, L74) (fun v τ => ∃ (I80 : Nat → Nat → Int32) (L81 : Nat → Nat → Int64), v = none ∧ τ = (n, sh, Rf, I80, L81) ∧ Ev (qGG D cA b E) mModel_is 1 (0, 0) 0 (lv_args 0 [.ref o, .int 59]) [] (n, sh, Rf, I80, L81) (fun v τ => ∃ (r83 : Int32) (I84 : Nat → Nat → Int32) (L85 : Nat → Nat → Int64), v = some (.int r83) ∧ τ = (n, sh, Rf, I84, L85) ∧ Ev (qGG D cA b E) mModel_must 3 (0, 0) 0 (lv_args 0 [.ref o, .int r83]) [] (n, sh, Rf, I84, L85) (fun v τ => ∃ (I88 : Nat → Nat → Int32) (L89 : Nat → Nat → Int64), v = none ∧ τ = (n, sh, Rf, I88, L89) ∧ post none (n, sh, Rf, I88, L89))))) ∧ (¬ x3 = 0 → Ev (qGG D cA b E) mModel_readPan 5 (0, 0) 0 (lv_args 0 [.ref o]) [] (n, sh, Rf, I73, L74) (fun v τ => ∃ (I92 : Nat → Nat → Int32) (L93 : Nat → Nat → Int64), v = none ∧ τ = (n, sh, Rf, I92, L93) ∧ Ev (qGG D cA b E) mModel_is 1 (0, 0) 0 (lv_args 0 [.ref o, .int 59]) [] (n, sh, Rf, I92, L93) (fun v τ => ∃ (r95 : Int32) (I96 : Nat → Nat → Int32) (L97 : Nat → Nat → Int64), v = some (.int r95) ∧ τ = (n, sh, Rf, I96, L97) ∧ Ev (qGG D cA b E) mModel_must 3 (0, 0) 0 (lv_args 0 [.ref o, .int r95]) [] (n, sh, Rf, I96, L97) (fun v τ => ∃ (I100 : Nat → Nat → Int32) (L101 : Nat → Nat → Int64), v = none ∧ τ = (n, sh, Rf, I100, L101) ∧ post none (n, sh, Rf, I100, L101))))))) ∧ (¬ x2 = 0 → Ev (qGG D cA b E) mModel_readFort 5 (0, 0) 0 (lv_args 0 [.ref o]) [] (n, sh, Rf, I73, L74) (fun v τ => ∃ (I104 : Nat → Nat → Int32) (L105 : Nat → Nat → Int64), v = none ∧ τ = (n, sh, Rf, I104, L105) ∧ Ev (qGG D cA b E) mModel_is 1 (0, 0) 0 (lv_args 0 [.ref o, .int 59]) [] (n, sh, Rf, I104, L105) (fun v τ => ∃ (r107 : Int32) (I108 : Nat → Nat → Int32) (L109 : Nat → Nat → Int64), v = some (.int r107) ∧ τ = (n, sh, Rf, I108, L109) ∧ Ev (qGG D cA b E) mModel_must 3 (0, 0) 0 (lv_args 0 [.ref o, .int r107]) [] (n, sh, Rf, I108, L109) (fun v τ => ∃ (I112 : Nat → Nat → Int32) (L113 : Nat → Nat → Int64), v = none ∧ τ = (n, sh, Rf, I112, L113) ∧ post none (n, sh, Rf, I112, L113))))))) ∧ (¬ x1 = 0 → Ev (qGG D cA b E) mModel_readRoad 5 (0, 0) 0 (lv_args 0 [.ref o]) [] (n, sh, Rf, I73, L74) (fun v τ => ∃ (I116 : Nat → Nat → Int32) (L117 : Nat → Nat → Int64), v = none ∧ τ = (n, sh, Rf, I116, L117) ∧ Ev (qGG D cA b E) mModel_is 1 (0, 0) 0 (lv_args 0 [.ref o, .int 59]) [] (n, sh, Rf, I116, L117) (fun v τ => ∃ (r119 : Int32) (I120 : Nat → Nat → Int32) (L121 : Nat → Nat → Int64), v = some (.int r119) ∧ τ = (n, sh, Rf, I120, L121) ∧ Ev (qGG D cA b E) mModel_must 3 (0, 0) 0 (lv_args 0 [.ref o, .int r119]) [] (n, sh, Rf, I120, L121) (fun v τ => ∃ (I124 : Nat → Nat → Int32) (L125 : Nat → Nat → Int64), v = none ∧ τ = (n, sh, Rf, I124, L125) ∧ post none (n, sh, Rf, I124, L125)))))))) ∧ (r67 = 0 → post none (n, sh, Rf, I68, L69)))))))
set_option maxHeartbeats 4000000 in
set_option maxRecDepth 20000 in
theorem sModel_readLine_128 {D : va_G} {cA : FieldType → ClassId} {b : Nat} {E : State → Prop} (o : Nat) (n : Nat) (sh : Nat → qC) (Rf : Nat → Nat → Option Nat) (I : Nat → Nat → Int32) (L : Nat → Nat → Int64) (post : Option Value → qS → Prop) (x1 : Int32) (x2 : Int32) (x3 : Int32) (z0 : Int32) (hok : q_ok (qGG D cA b E)) (hw : WfModel (qGG D cA b E) n sh Rf o) (H : fModel_readLine_128 D cA b E o n sh Rf I L post x1 x2 x3 z0) : Ev (qGG D cA b E) mModel_readLine 6 (0, 0) 128 [(0, .ref o), (1, .int x1), (2, .int x2), (3, .int x3)] [.int z0] (n, sh, Rf, I, L) post := by
  unfold fModel_readLine_128 at H
  refine ev_istore dModel_readLine_128 (by decide) ?_
  refine ev_iload dModel_readLine_130 rfl ?_
  refine ev_if_eq 139 dModel_readLine_132 (by decide) (fun c1 => ?_) (fun c1 => ?_)
  · have H := H.1 c1
    refine ev_aload_n dModel_readLine_139 rfl ?_
    refine ev_callV [] [] (B' := (0, 0)) (B'' := (0, 0)) hok mmModel_isGood mk_Model_126 (ci := 12) rfl rfl (woModel hw) rfl (Nat.le_of_ble_eq_true rfl) rfl (Nat.le_of_ble_eq_true rfl) dModel_readLine_140 rfl (by decide) H (fun v τ p2 => ?_)
    obtain ⟨r3, I4, L5, rfl, rfl, H⟩ := p2
    refine ev_if_ne 147 dModel_readLine_143 (by decide) (fun c6 => ?_) (fun c6 => ?_)
    · have H := H.1 c6
      refine ev_aload_n dModel_readLine_147 rfl ?_
      refine ev_callV [] [] (B' := (0, 0)) (B'' := (0, 0)) hok mmModel_next mk_Model_130 (ci := 12) rfl rfl (woModel hw) rfl (Nat.le_of_ble_eq_true rfl) rfl (Nat.le_of_ble_eq_true rfl) dModel_readLine_148 rfl (by decide) H (fun v τ p7 => ?_)
      obtain ⟨I9, L10, rfl, rfl, H⟩ := p7
      refine ev_iload_n dModel_readLine_151 rfl ?_
      refine ev_if_eq 162 dModel_readLine_152 (by decide) (fun c11 => ?_) (fun c11 => ?_)
      · have H := H.1 c11
        refine ev_iload_n dModel_readLine_162 rfl ?_
        refine ev_if_eq 173 dModel_readLine_163 (by decide) (fun c12 => ?_) (fun c12 => ?_)
        · have H := H.1 c12
          refine ev_iload_n dModel_readLine_173 rfl ?_
          refine ev_if_eq 184 dModel_readLine_174 (by decide) (fun c13 => ?_) (fun c13 => ?_)
          · have H := H.1 c13
            refine ev_aload_n dModel_readLine_184 rfl ?_
            refine ev_callV [] [] (B' := (0, 0)) (B'' := (0, 0)) hok mmModel_readTown mk_Model_190 (ci := 12) rfl rfl (woModel hw) rfl (Nat.le_of_ble_eq_true rfl) rfl (Nat.le_of_ble_eq_true rfl) dModel_readLine_185 rfl (by decide) H (fun v τ p14 => ?_)
            obtain ⟨I16, L17, rfl, rfl, H⟩ := p14
            refine ev_aload_n dModel_readLine_188 rfl ?_
            refine ev_aload_n dModel_readLine_189 rfl ?_
            refine ev_bipush (59) dModel_readLine_190 (by decide) ?_
            refine ev_callV [.int 59] [.ref o] (B' := (0, 0)) (B'' := (0, 0)) hok mmModel_is mk_Model_193 (ci := 12) rfl rfl (woModel hw) rfl (Nat.le_of_ble_eq_true rfl) rfl (Nat.le_of_ble_eq_true rfl) dModel_readLine_192 rfl (by decide) H (fun v τ p18 => ?_)
            obtain ⟨r19, I20, L21, rfl, rfl, H⟩ := p18
            refine ev_callV [.int r19] [] (B' := (0, 0)) (B'' := (0, 0)) hok mmModel_must mk_Model_196 (ci := 12) rfl rfl (woModel hw) rfl (Nat.le_of_ble_eq_true rfl) rfl (Nat.le_of_ble_eq_true rfl) dModel_readLine_195 rfl (by decide) H (fun v τ p22 => ?_)
            obtain ⟨I24, L25, rfl, rfl, H⟩ := p22
            exact ev_vret rfl dModel_readLine_198 H
          · have H := H.2 c13
            refine ev_aload_n dModel_readLine_177 rfl ?_
            refine ev_callV [] [] (B' := (0, 0)) (B'' := (0, 0)) hok mmModel_readPan mk_Model_187 (ci := 12) rfl rfl (woModel hw) rfl (Nat.le_of_ble_eq_true rfl) rfl (Nat.le_of_ble_eq_true rfl) dModel_readLine_178 rfl (by decide) H (fun v τ p26 => ?_)
            obtain ⟨I28, L29, rfl, rfl, H⟩ := p26
            refine ev_goto 188 dModel_readLine_181 (by decide) ?_
            refine ev_aload_n dModel_readLine_188 rfl ?_
            refine ev_aload_n dModel_readLine_189 rfl ?_
            refine ev_bipush (59) dModel_readLine_190 (by decide) ?_
            refine ev_callV [.int 59] [.ref o] (B' := (0, 0)) (B'' := (0, 0)) hok mmModel_is mk_Model_193 (ci := 12) rfl rfl (woModel hw) rfl (Nat.le_of_ble_eq_true rfl) rfl (Nat.le_of_ble_eq_true rfl) dModel_readLine_192 rfl (by decide) H (fun v τ p30 => ?_)
            obtain ⟨r31, I32, L33, rfl, rfl, H⟩ := p30
            refine ev_callV [.int r31] [] (B' := (0, 0)) (B'' := (0, 0)) hok mmModel_must mk_Model_196 (ci := 12) rfl rfl (woModel hw) rfl (Nat.le_of_ble_eq_true rfl) rfl (Nat.le_of_ble_eq_true rfl) dModel_readLine_195 rfl (by decide) H (fun v τ p34 => ?_)
            obtain ⟨I36, L37, rfl, rfl, H⟩ := p34
            exact ev_vret rfl dModel_readLine_198 H
        · have H := H.2 c12
          refine ev_aload_n dModel_readLine_166 rfl ?_
          refine ev_callV [] [] (B' := (0, 0)) (B'' := (0, 0)) hok mmModel_readFort mk_Model_184 (ci := 12) rfl rfl (woModel hw) rfl (Nat.le_of_ble_eq_true rfl) rfl (Nat.le_of_ble_eq_true rfl) dModel_readLine_167 rfl (by decide) H (fun v τ p38 => ?_)
          obtain ⟨I40, L41, rfl, rfl, H⟩ := p38
          refine ev_goto 188 dModel_readLine_170 (by decide) ?_
          refine ev_aload_n dModel_readLine_188 rfl ?_
          refine ev_aload_n dModel_readLine_189 rfl ?_
          refine ev_bipush (59) dModel_readLine_190 (by decide) ?_
          refine ev_callV [.int 59] [.ref o] (B' := (0, 0)) (B'' := (0, 0)) hok mmModel_is mk_Model_193 (ci := 12) rfl rfl (woModel hw) rfl (Nat.le_of_ble_eq_true rfl) rfl (Nat.le_of_ble_eq_true rfl) dModel_readLine_192 rfl (by decide) H (fun v τ p42 => ?_)
          obtain ⟨r43, I44, L45, rfl, rfl, H⟩ := p42
          refine ev_callV [.int r43] [] (B' := (0, 0)) (B'' := (0, 0)) hok mmModel_must mk_Model_196 (ci := 12) rfl rfl (woModel hw) rfl (Nat.le_of_ble_eq_true rfl) rfl (Nat.le_of_ble_eq_true rfl) dModel_readLine_195 rfl (by decide) H (fun v τ p46 => ?_)
          obtain ⟨I48, L49, rfl, rfl, H⟩ := p46
          exact ev_vret rfl dModel_readLine_198 H
      · have H := H.2 c11
        refine ev_aload_n dModel_readLine_155 rfl ?_
        refine ev_callV [] [] (B' := (0, 0)) (B'' := (0, 0)) hok mmModel_readRoad mk_Model_181 (ci := 12) rfl rfl (woModel hw) rfl (Nat.le_of_ble_eq_true rfl) rfl (Nat.le_of_ble_eq_true rfl) dModel_readLine_156 rfl (by decide) H (fun v τ p50 => ?_)
        obtain ⟨I52, L53, rfl, rfl, H⟩ := p50
        refine ev_goto 188 dModel_readLine_159 (by decide) ?_
        refine ev_aload_n dModel_readLine_188 rfl ?_
        refine ev_aload_n dModel_readLine_189 rfl ?_
        refine ev_bipush (59) dModel_readLine_190 (by decide) ?_
        refine ev_callV [.int 59] [.ref o] (B' := (0, 0)) (B'' := (0, 0)) hok mmModel_is mk_Model_193 (ci := 12) rfl rfl (woModel hw) rfl (Nat.le_of_ble_eq_true rfl) rfl (Nat.le_of_ble_eq_true rfl) dModel_readLine_192 rfl (by decide) H (fun v τ p54 => ?_)
        obtain ⟨r55, I56, L57, rfl, rfl, H⟩ := p54
        refine ev_callV [.int r55] [] (B' := (0, 0)) (B'' := (0, 0)) hok mmModel_must mk_Model_196 (ci := 12) rfl rfl (woModel hw) rfl (Nat.le_of_ble_eq_true rfl) rfl (Nat.le_of_ble_eq_true rfl) dModel_readLine_195 rfl (by decide) H (fun v τ p58 => ?_)
        obtain ⟨I60, L61, rfl, rfl, H⟩ := p58
        exact ev_vret rfl dModel_readLine_198 H
    · have H := H.2 c6
      exact ev_vret rfl dModel_readLine_146 H
  · have H := H.2 c1
    refine ev_aload_n dModel_readLine_135 rfl ?_
    refine ev_callV [] [] (B' := (0, 0)) (B'' := (0, 0)) hok mmModel_wrong mk_Model_134 (ci := 12) rfl rfl (woModel hw) rfl (Nat.le_of_ble_eq_true rfl) rfl (Nat.le_of_ble_eq_true rfl) dModel_readLine_136 rfl (by decide) H (fun v τ p62 => ?_)
    obtain ⟨I64, L65, rfl, rfl, H⟩ := p62
    refine ev_aload_n dModel_readLine_139 rfl ?_
    refine ev_callV [] [] (B' := (0, 0)) (B'' := (0, 0)) hok mmModel_isGood mk_Model_126 (ci := 12) rfl rfl (woModel hw) rfl (Nat.le_of_ble_eq_true rfl) rfl (Nat.le_of_ble_eq_true rfl) dModel_readLine_140 rfl (by decide) H (fun v τ p66 => ?_)
    obtain ⟨r67, I68, L69, rfl, rfl, H⟩ := p66
    refine ev_if_ne 147 dModel_readLine_143 (by decide) (fun c70 => ?_) (fun c70 => ?_)
    · have H := H.1 c70
      refine ev_aload_n dModel_readLine_147 rfl ?_
      refine ev_callV [] [] (B' := (0, 0)) (B'' := (0, 0)) hok mmModel_next mk_Model_130 (ci := 12) rfl rfl (woModel hw) rfl (Nat.le_of_ble_eq_true rfl) rfl (Nat.le_of_ble_eq_true rfl) dModel_readLine_148 rfl (by decide) H (fun v τ p71 => ?_)
      obtain ⟨I73, L74, rfl, rfl, H⟩ := p71
      refine ev_iload_n dModel_readLine_151 rfl ?_
      refine ev_if_eq 162 dModel_readLine_152 (by decide) (fun c75 => ?_) (fun c75 => ?_)
      · have H := H.1 c75
        refine ev_iload_n dModel_readLine_162 rfl ?_
        refine ev_if_eq 173 dModel_readLine_163 (by decide) (fun c76 => ?_) (fun c76 => ?_)
        · have H := H.1 c76
          refine ev_iload_n dModel_readLine_173 rfl ?_
          refine ev_if_eq 184 dModel_readLine_174 (by decide) (fun c77 => ?_) (fun c77 => ?_)
          · have H := H.1 c77
            refine ev_aload_n dModel_readLine_184 rfl ?_
            refine ev_callV [] [] (B' := (0, 0)) (B'' := (0, 0)) hok mmModel_readTown mk_Model_190 (ci := 12) rfl rfl (woModel hw) rfl (Nat.le_of_ble_eq_true rfl) rfl (Nat.le_of_ble_eq_true rfl) dModel_readLine_185 rfl (by decide) H (fun v τ p78 => ?_)
            obtain ⟨I80, L81, rfl, rfl, H⟩ := p78
            refine ev_aload_n dModel_readLine_188 rfl ?_
            refine ev_aload_n dModel_readLine_189 rfl ?_
            refine ev_bipush (59) dModel_readLine_190 (by decide) ?_
            refine ev_callV [.int 59] [.ref o] (B' := (0, 0)) (B'' := (0, 0)) hok mmModel_is mk_Model_193 (ci := 12) rfl rfl (woModel hw) rfl (Nat.le_of_ble_eq_true rfl) rfl (Nat.le_of_ble_eq_true rfl) dModel_readLine_192 rfl (by decide) H (fun v τ p82 => ?_)
            obtain ⟨r83, I84, L85, rfl, rfl, H⟩ := p82
            refine ev_callV [.int r83] [] (B' := (0, 0)) (B'' := (0, 0)) hok mmModel_must mk_Model_196 (ci := 12) rfl rfl (woModel hw) rfl (Nat.le_of_ble_eq_true rfl) rfl (Nat.le_of_ble_eq_true rfl) dModel_readLine_195 rfl (by decide) H (fun v τ p86 => ?_)
            obtain ⟨I88, L89, rfl, rfl, H⟩ := p86
            exact ev_vret rfl dModel_readLine_198 H
          · have H := H.2 c77
            refine ev_aload_n dModel_readLine_177 rfl ?_
            refine ev_callV [] [] (B' := (0, 0)) (B'' := (0, 0)) hok mmModel_readPan mk_Model_187 (ci := 12) rfl rfl (woModel hw) rfl (Nat.le_of_ble_eq_true rfl) rfl (Nat.le_of_ble_eq_true rfl) dModel_readLine_178 rfl (by decide) H (fun v τ p90 => ?_)
            obtain ⟨I92, L93, rfl, rfl, H⟩ := p90
            refine ev_goto 188 dModel_readLine_181 (by decide) ?_
            refine ev_aload_n dModel_readLine_188 rfl ?_
            refine ev_aload_n dModel_readLine_189 rfl ?_
            refine ev_bipush (59) dModel_readLine_190 (by decide) ?_
            refine ev_callV [.int 59] [.ref o] (B' := (0, 0)) (B'' := (0, 0)) hok mmModel_is mk_Model_193 (ci := 12) rfl rfl (woModel hw) rfl (Nat.le_of_ble_eq_true rfl) rfl (Nat.le_of_ble_eq_true rfl) dModel_readLine_192 rfl (by decide) H (fun v τ p94 => ?_)
            obtain ⟨r95, I96, L97, rfl, rfl, H⟩ := p94
            refine ev_callV [.int r95] [] (B' := (0, 0)) (B'' := (0, 0)) hok mmModel_must mk_Model_196 (ci := 12) rfl rfl (woModel hw) rfl (Nat.le_of_ble_eq_true rfl) rfl (Nat.le_of_ble_eq_true rfl) dModel_readLine_195 rfl (by decide) H (fun v τ p98 => ?_)
            obtain ⟨I100, L101, rfl, rfl, H⟩ := p98
            exact ev_vret rfl dModel_readLine_198 H
        · have H := H.2 c76
          refine ev_aload_n dModel_readLine_166 rfl ?_
          refine ev_callV [] [] (B' := (0, 0)) (B'' := (0, 0)) hok mmModel_readFort mk_Model_184 (ci := 12) rfl rfl (woModel hw) rfl (Nat.le_of_ble_eq_true rfl) rfl (Nat.le_of_ble_eq_true rfl) dModel_readLine_167 rfl (by decide) H (fun v τ p102 => ?_)
          obtain ⟨I104, L105, rfl, rfl, H⟩ := p102
          refine ev_goto 188 dModel_readLine_170 (by decide) ?_
          refine ev_aload_n dModel_readLine_188 rfl ?_
          refine ev_aload_n dModel_readLine_189 rfl ?_
          refine ev_bipush (59) dModel_readLine_190 (by decide) ?_
          refine ev_callV [.int 59] [.ref o] (B' := (0, 0)) (B'' := (0, 0)) hok mmModel_is mk_Model_193 (ci := 12) rfl rfl (woModel hw) rfl (Nat.le_of_ble_eq_true rfl) rfl (Nat.le_of_ble_eq_true rfl) dModel_readLine_192 rfl (by decide) H (fun v τ p106 => ?_)
          obtain ⟨r107, I108, L109, rfl, rfl, H⟩ := p106
          refine ev_callV [.int r107] [] (B' := (0, 0)) (B'' := (0, 0)) hok mmModel_must mk_Model_196 (ci := 12) rfl rfl (woModel hw) rfl (Nat.le_of_ble_eq_true rfl) rfl (Nat.le_of_ble_eq_true rfl) dModel_readLine_195 rfl (by decide) H (fun v τ p110 => ?_)
          obtain ⟨I112, L113, rfl, rfl, H⟩ := p110
          exact ev_vret rfl dModel_readLine_198 H
      · have H := H.2 c75
        refine ev_aload_n dModel_readLine_155 rfl ?_
        refine ev_callV [] [] (B' := (0, 0)) (B'' := (0, 0)) hok mmModel_readRoad mk_Model_181 (ci := 12) rfl rfl (woModel hw) rfl (Nat.le_of_ble_eq_true rfl) rfl (Nat.le_of_ble_eq_true rfl) dModel_readLine_156 rfl (by decide) H (fun v τ p114 => ?_)
        obtain ⟨I116, L117, rfl, rfl, H⟩ := p114
        refine ev_goto 188 dModel_readLine_159 (by decide) ?_
        refine ev_aload_n dModel_readLine_188 rfl ?_
        refine ev_aload_n dModel_readLine_189 rfl ?_
        refine ev_bipush (59) dModel_readLine_190 (by decide) ?_
        refine ev_callV [.int 59] [.ref o] (B' := (0, 0)) (B'' := (0, 0)) hok mmModel_is mk_Model_193 (ci := 12) rfl rfl (woModel hw) rfl (Nat.le_of_ble_eq_true rfl) rfl (Nat.le_of_ble_eq_true rfl) dModel_readLine_192 rfl (by decide) H (fun v τ p118 => ?_)
        obtain ⟨r119, I120, L121, rfl, rfl, H⟩ := p118
        refine ev_callV [.int r119] [] (B' := (0, 0)) (B'' := (0, 0)) hok mmModel_must mk_Model_196 (ci := 12) rfl rfl (woModel hw) rfl (Nat.le_of_ble_eq_true rfl) rfl (Nat.le_of_ble_eq_true rfl) dModel_readLine_195 rfl (by decide) H (fun v τ p122 => ?_)
        obtain ⟨I124, L125, rfl, rfl, H⟩ := p122
        exact ev_vret rfl dModel_readLine_198 H
    · have H := H.2 c70
      exact ev_vret rfl dModel_readLine_146 H
def fModel_readLine_123 (D : va_G) (cA : FieldType → ClassId) (b : Nat) (E : State → Prop) (o : Nat) (n : Nat) (sh : Nat → qC) (Rf : Nat → Nat → Option Nat) (I : Nat → Nat → Int32) (L : Nat → Nat → Int64) (post : Option Value → qS → Prop) (x1 : Int32) (x2 : Int32) (x3 : Int32) : Prop :=
  fModel_readLine_128 D cA b E o n sh Rf I L post x1 x2 x3 1
set_option maxHeartbeats 4000000 in
set_option maxRecDepth 20000 in
theorem sModel_readLine_123 {D : va_G} {cA : FieldType → ClassId} {b : Nat} {E : State → Prop} (o : Nat) (n : Nat) (sh : Nat → qC) (Rf : Nat → Nat → Option Nat) (I : Nat → Nat → Int32) (L : Nat → Nat → Int64) (post : Option Value → qS → Prop) (x1 : Int32) (x2 : Int32) (x3 : Int32) (hok : q_ok (qGG D cA b E)) (hw : WfModel (qGG D cA b E) n sh Rf o) (H : fModel_readLine_123 D cA b E o n sh Rf I L post x1 x2 x3) : Ev (qGG D cA b E) mModel_readLine 6 (0, 0) 123 [(0, .ref o), (1, .int x1), (2, .int x2), (3, .int x3)] [] (n, sh, Rf, I, L) post := by
  unfold fModel_readLine_123 at H
  refine ev_iconst (1) dModel_readLine_123 (by decide) ?_
  refine ev_goto 128 dModel_readLine_124 (by decide) ?_
  exact ev_sub [(0, .ref o), (1, .int x1), (2, .int x2), (3, .int x3)] rfl (sModel_readLine_128 o n sh Rf I L post x1 x2 x3 1 hok hw H)
def fModel_readLine_0 (D : va_G) (cA : FieldType → ClassId) (b : Nat) (E : State → Prop) (o : Nat) (n : Nat) (sh : Nat → qC) (Rf : Nat → Nat → Option Nat) (I : Nat → Nat → Int32) (L : Nat → Nat → Int64) (post : Option Value → qS → Prop)  : Prop :=
  Ev (qGG D cA b E) mModel_isWord 0 (0, 0) 0 (lv_args 0 [.ref o, .long 1919902052]) [] (n, sh, Rf, I, L) (fun v τ => ∃ (r2 : Int32) (I3 : Nat → Nat → Int32) (L4 : Nat → Nat → Int64), v = some (.int r2) ∧ τ = (n, sh, Rf, I3, L4) ∧ Ev (qGG D cA b E) mModel_isWord 0 (0, 0) 0 (lv_args 0 [.ref o, .long 1718579828]) [] (n, sh, Rf, I3, L4) (fun v τ => ∃ (r6 : Int32) (I7 : Nat → Nat → Int32) (L8 : Nat → Nat → Int64), v = some (.int r6) ∧ τ = (n, sh, Rf, I7, L8) ∧ Ev (qGG D cA b E) mModel_isWord 0 (0, 0) 0 (lv_args 0 [.ref o, .long 7364974]) [] (n, sh, Rf, I7, L8) (fun v τ => ∃ (r10 : Int32) (I11 : Nat → Nat → Int32) (L12 : Nat → Nat → Int64), v = some (.int r10) ∧ τ = (n, sh, Rf, I11, L12) ∧ ((r2 = 0 → ((r6 = 0 → ((r10 = 0 → Ev (qGG D cA b E) mModel_isWord 0 (0, 0) 0 (lv_args 0 [.ref o, .long 1953462126]) [] (n, sh, Rf, I11, L12) (fun v τ => ∃ (r17 : Int32) (I18 : Nat → Nat → Int32) (L19 : Nat → Nat → Int64), v = some (.int r17) ∧ τ = (n, sh, Rf, I18, L19) ∧ ((r17 = 0 → fModel_readLine_123 D cA b E o n sh Rf I18 L19 post r2 r6 r10) ∧ (¬ r17 = 0 → vp_in (I18 o 35) 2 ∧ ((¬ (I18 (o + 9) ((I18 o 35) : Int32).toNatClampNeg) = 5 → fModel_readLine_128 D cA b E o n sh Rf I18 L19 post r2 r6 r10 0) ∧ ((I18 (o + 9) ((I18 o 35) : Int32).toNatClampNeg) = 5 → fModel_readLine_123 D cA b E o n sh Rf I18 L19 post r2 r6 r10)))))) ∧ (¬ r10 = 0 → vp_in (I11 o 35) 2 ∧ ((¬ (I11 (o + 8) ((I11 o 35) : Int32).toNatClampNeg) = 3 → fModel_readLine_128 D cA b E o n sh Rf I11 L12 post r2 r6 r10 0) ∧ ((I11 (o + 8) ((I11 o 35) : Int32).toNatClampNeg) = 3 → fModel_readLine_128 D cA b E o n sh Rf I11 L12 post r2 r6 r10 1))))) ∧ (¬ r6 = 0 → vp_in (I11 o 35) 2 ∧ ((¬ (I11 (o + 7) ((I11 o 35) : Int32).toNatClampNeg) = 3 → fModel_readLine_128 D cA b E o n sh Rf I11 L12 post r2 r6 r10 0) ∧ ((I11 (o + 7) ((I11 o 35) : Int32).toNatClampNeg) = 3 → fModel_readLine_128 D cA b E o n sh Rf I11 L12 post r2 r6 r10 1))))) ∧ (¬ r2 = 0 → vp_in (I11 o 35) 2 ∧ ((¬ (I11 (o + 6) ((I11 o 35) : Int32).toNatClampNeg) = 24 → fModel_readLine_128 D cA b E o n sh Rf I11 L12 post r2 r6 r10 0) ∧ ((I11 (o + 6) ((I11 o 35) : Int32).toNatClampNeg) = 24 → fModel_readLine_128 D cA b E o n sh Rf I11 L12 post r2 r6 r10 1)))))))
set_option maxHeartbeats 4000000 in
set_option maxRecDepth 20000 in
theorem sModel_readLine_0 {D : va_G} {cA : FieldType → ClassId} {b : Nat} {E : State → Prop} (o : Nat) (n : Nat) (sh : Nat → qC) (Rf : Nat → Nat → Option Nat) (I : Nat → Nat → Int32) (L : Nat → Nat → Int64) (post : Option Value → qS → Prop)  (hok : q_ok (qGG D cA b E)) (hw : WfModel (qGG D cA b E) n sh Rf o) (H : fModel_readLine_0 D cA b E o n sh Rf I L post ) : Ev (qGG D cA b E) mModel_readLine 6 (0, 0) 0 [(0, .ref o)] [] (n, sh, Rf, I, L) post := by
  unfold fModel_readLine_0 at H
  refine ev_aload_n dModel_readLine_0 rfl ?_
  refine ev_ldc2 (1919902052) dModel_readLine_1 (q_t6 232 (by decide +kernel) rfl) ?_
  refine ev_callV [.long 1919902052] [] (B' := (0, 0)) (B'' := (0, 0)) hok mmModel_isWord mk_Model_178 (ci := 12) rfl rfl (woModel hw) rfl (Nat.le_of_ble_eq_true rfl) rfl (Nat.le_of_ble_eq_true rfl) dModel_readLine_4 rfl (by decide) H (fun v τ p1 => ?_)
  obtain ⟨r2, I3, L4, rfl, rfl, H⟩ := p1
  refine ev_istore_n dModel_readLine_7 (by decide) ?_
  refine ev_aload_n dModel_readLine_8 rfl ?_
  refine ev_ldc2 (1718579828) dModel_readLine_9 (q_t6 233 (by decide +kernel) rfl) ?_
  refine ev_callV [.long 1718579828] [] (B' := (0, 0)) (B'' := (0, 0)) hok mmModel_isWord mk_Model_178 (ci := 12) rfl rfl (woModel hw) rfl (Nat.le_of_ble_eq_true rfl) rfl (Nat.le_of_ble_eq_true rfl) dModel_readLine_12 rfl (by decide) H (fun v τ p5 => ?_)
  obtain ⟨r6, I7, L8, rfl, rfl, H⟩ := p5
  refine ev_istore_n dModel_readLine_15 (by decide) ?_
  refine ev_aload_n dModel_readLine_16 rfl ?_
  refine ev_ldc2 (7364974) dModel_readLine_17 (q_t6 237 (by decide +kernel) rfl) ?_
  refine ev_callV [.long 7364974] [] (B' := (0, 0)) (B'' := (0, 0)) hok mmModel_isWord mk_Model_178 (ci := 12) rfl rfl (woModel hw) rfl (Nat.le_of_ble_eq_true rfl) rfl (Nat.le_of_ble_eq_true rfl) dModel_readLine_20 rfl (by decide) H (fun v τ p9 => ?_)
  obtain ⟨r10, I11, L12, rfl, rfl, H⟩ := p9
  refine ev_istore_n dModel_readLine_23 (by decide) ?_
  refine ev_iload_n dModel_readLine_24 rfl ?_
  refine ev_if_eq 50 dModel_readLine_25 (by decide) (fun c13 => ?_) (fun c13 => ?_)
  · have H := H.1 c13
    refine ev_iload_n dModel_readLine_50 rfl ?_
    refine ev_if_eq 75 dModel_readLine_51 (by decide) (fun c14 => ?_) (fun c14 => ?_)
    · have H := H.1 c14
      refine ev_iload_n dModel_readLine_75 rfl ?_
      refine ev_if_eq 100 dModel_readLine_76 (by decide) (fun c15 => ?_) (fun c15 => ?_)
      · have H := H.1 c15
        refine ev_aload_n dModel_readLine_100 rfl ?_
        refine ev_ldc2 (1953462126) dModel_readLine_101 (q_t7 0 (by decide +kernel) rfl) ?_
        refine ev_callV [.long 1953462126] [] (B' := (0, 0)) (B'' := (0, 0)) hok mmModel_isWord mk_Model_178 (ci := 12) rfl rfl (woModel hw) rfl (Nat.le_of_ble_eq_true rfl) rfl (Nat.le_of_ble_eq_true rfl) dModel_readLine_104 rfl (by decide) H (fun v τ p16 => ?_)
        obtain ⟨r17, I18, L19, rfl, rfl, H⟩ := p16
        refine ev_if_eq 123 dModel_readLine_107 (by decide) (fun c20 => ?_) (fun c20 => ?_)
        · have H := H.1 c20
          exact ev_sub [(0, .ref o), (1, .int r2), (2, .int r6), (3, .int r10)] rfl (sModel_readLine_123 o n sh Rf I18 L19 post r2 r6 r10 hok hw H)
        · have H := H.2 c20
          refine ev_aload_n dModel_readLine_110 rfl ?_
          refine ev_getR hok fk_Model_163 (woModel hw) (fun _ _ _ => rfl) (wrModel_18 hw) dModel_readLine_111 ?_
          refine ev_aload_n dModel_readLine_114 rfl ?_
          refine ev_getI hok fk_Model_150 (woModel hw) (fun _ _ _ => rfl) dModel_readLine_115 ?_
          obtain ⟨h21, H⟩ := H
          refine ev_iald hok (waModel_18 hw) h21 dModel_readLine_118 ?_
          refine ev_iconst (5) dModel_readLine_119 (by decide) ?_
          refine ev_icmp_ne 127 dModel_readLine_120 (by decide) (fun c22 => ?_) (fun c22 => ?_)
          · have H := H.1 c22
            refine ev_iconst (0) dModel_readLine_127 (by decide) ?_
            exact ev_sub [(0, .ref o), (1, .int r2), (2, .int r6), (3, .int r10)] rfl (sModel_readLine_128 o n sh Rf I18 L19 post r2 r6 r10 0 hok hw H)
          · have H := H.2 c22
            exact ev_sub [(0, .ref o), (1, .int r2), (2, .int r6), (3, .int r10)] rfl (sModel_readLine_123 o n sh Rf I18 L19 post r2 r6 r10 hok hw H)
      · have H := H.2 c15
        refine ev_aload_n dModel_readLine_79 rfl ?_
        refine ev_getR hok fk_Model_160 (woModel hw) (fun _ _ _ => rfl) (wrModel_17 hw) dModel_readLine_80 ?_
        refine ev_aload_n dModel_readLine_83 rfl ?_
        refine ev_getI hok fk_Model_150 (woModel hw) (fun _ _ _ => rfl) dModel_readLine_84 ?_
        obtain ⟨h23, H⟩ := H
        refine ev_iald hok (waModel_17 hw) h23 dModel_readLine_87 ?_
        refine ev_iconst (3) dModel_readLine_88 (by decide) ?_
        refine ev_icmp_ne 96 dModel_readLine_89 (by decide) (fun c24 => ?_) (fun c24 => ?_)
        · have H := H.1 c24
          refine ev_iconst (0) dModel_readLine_96 (by decide) ?_
          refine ev_goto 128 dModel_readLine_97 (by decide) ?_
          exact ev_sub [(0, .ref o), (1, .int r2), (2, .int r6), (3, .int r10)] rfl (sModel_readLine_128 o n sh Rf I11 L12 post r2 r6 r10 0 hok hw H)
        · have H := H.2 c24
          refine ev_iconst (1) dModel_readLine_92 (by decide) ?_
          refine ev_goto 128 dModel_readLine_93 (by decide) ?_
          exact ev_sub [(0, .ref o), (1, .int r2), (2, .int r6), (3, .int r10)] rfl (sModel_readLine_128 o n sh Rf I11 L12 post r2 r6 r10 1 hok hw H)
    · have H := H.2 c14
      refine ev_aload_n dModel_readLine_54 rfl ?_
      refine ev_getR hok fk_Model_157 (woModel hw) (fun _ _ _ => rfl) (wrModel_16 hw) dModel_readLine_55 ?_
      refine ev_aload_n dModel_readLine_58 rfl ?_
      refine ev_getI hok fk_Model_150 (woModel hw) (fun _ _ _ => rfl) dModel_readLine_59 ?_
      obtain ⟨h25, H⟩ := H
      refine ev_iald hok (waModel_16 hw) h25 dModel_readLine_62 ?_
      refine ev_iconst (3) dModel_readLine_63 (by decide) ?_
      refine ev_icmp_ne 71 dModel_readLine_64 (by decide) (fun c26 => ?_) (fun c26 => ?_)
      · have H := H.1 c26
        refine ev_iconst (0) dModel_readLine_71 (by decide) ?_
        refine ev_goto 128 dModel_readLine_72 (by decide) ?_
        exact ev_sub [(0, .ref o), (1, .int r2), (2, .int r6), (3, .int r10)] rfl (sModel_readLine_128 o n sh Rf I11 L12 post r2 r6 r10 0 hok hw H)
      · have H := H.2 c26
        refine ev_iconst (1) dModel_readLine_67 (by decide) ?_
        refine ev_goto 128 dModel_readLine_68 (by decide) ?_
        exact ev_sub [(0, .ref o), (1, .int r2), (2, .int r6), (3, .int r10)] rfl (sModel_readLine_128 o n sh Rf I11 L12 post r2 r6 r10 1 hok hw H)
  · have H := H.2 c13
    refine ev_aload_n dModel_readLine_28 rfl ?_
    refine ev_getR hok fk_Model_153 (woModel hw) (fun _ _ _ => rfl) (wrModel_15 hw) dModel_readLine_29 ?_
    refine ev_aload_n dModel_readLine_32 rfl ?_
    refine ev_getI hok fk_Model_150 (woModel hw) (fun _ _ _ => rfl) dModel_readLine_33 ?_
    obtain ⟨h27, H⟩ := H
    refine ev_iald hok (waModel_15 hw) h27 dModel_readLine_36 ?_
    refine ev_bipush (24) dModel_readLine_37 (by decide) ?_
    refine ev_icmp_ne 46 dModel_readLine_39 (by decide) (fun c28 => ?_) (fun c28 => ?_)
    · have H := H.1 c28
      refine ev_iconst (0) dModel_readLine_46 (by decide) ?_
      refine ev_goto 128 dModel_readLine_47 (by decide) ?_
      exact ev_sub [(0, .ref o), (1, .int r2), (2, .int r6), (3, .int r10)] rfl (sModel_readLine_128 o n sh Rf I11 L12 post r2 r6 r10 0 hok hw H)
    · have H := H.2 c28
      refine ev_iconst (1) dModel_readLine_42 (by decide) ?_
      refine ev_goto 128 dModel_readLine_43 (by decide) ?_
      exact ev_sub [(0, .ref o), (1, .int r2), (2, .int r6), (3, .int r10)] rfl (sModel_readLine_128 o n sh Rf I11 L12 post r2 r6 r10 1 hok hw H)
