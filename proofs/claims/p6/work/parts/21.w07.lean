/-! Walks of the reference: by program. -/
def fModel_worth_0 (D : va_G) (cA : FieldType → ClassId) (b : Nat) (E : State → Prop) (o : Nat) (n : Nat) (sh : Nat → qC) (Rf : Nat → Nat → Option Nat) (I : Nat → Nat → Int32) (L : Nat → Nat → Int64) (post : Option Value → qS → Prop) (x1 : Int32) : Prop :=
  (((I o 135) = 0 → post (some (.long ((-1000000000000)))) (n, sh, Rf, I, L)) ∧ (¬ (I o 135) = 0 → Ev (qGG D cA b E) mModel_pans 0 (0, 0) 0 (lv_args 0 [.ref o]) [] (n, sh, Rf, I, L) (fun v τ => ∃ (r3 : Int32) (I4 : Nat → Nat → Int32) (L5 : Nat → Nat → Int64), v = some (.int r3) ∧ τ = (n, sh, Rf, I4, L5) ∧ Ev (qGG D cA b E) mModel_isIn 0 (0, 0) 0 (lv_args 0 [.int x1, .int 0, .int ((r3 - 1))]) [] (n, sh, Rf, I4, L5) (fun v τ => ∃ (r7 : Int32) (I8 : Nat → Nat → Int32) (L9 : Nat → Nat → Int64), v = some (.int r7) ∧ τ = (n, sh, Rf, I8, L9) ∧ ((¬ r7 = 0 → Ev (qGG D cA b E) mModel_goOn 7 (0, 0) 0 (lv_args 0 [.ref o]) [] (n, sh, Rf, I8, L9) (fun v τ => ∃ (I13 : Nat → Nat → Int32) (L14 : Nat → Nat → Int64), v = none ∧ τ = (n, sh, Rf, I13, L14) ∧ Ev (qGG D cA b E) mModel_worthOf 2 (0, 0) 0 (lv_args 0 [.ref o, .int x1]) [] (n, sh, Rf, I13, L14) (fun v τ => ∃ (r16 : Int64) (I17 : Nat → Nat → Int32) (L18 : Nat → Nat → Int64), v = some (.long r16) ∧ τ = (n, sh, Rf, I17, L18) ∧ post (some (.long r16)) (n, sh, Rf, I17, L18)))) ∧ (r7 = 0 → post (some (.long ((-1000000000000)))) (n, sh, Rf, I8, L9)))))))
set_option maxHeartbeats 4000000 in
set_option maxRecDepth 20000 in
theorem sModel_worth_0 {D : va_G} {cA : FieldType → ClassId} {b : Nat} {E : State → Prop} (o : Nat) (n : Nat) (sh : Nat → qC) (Rf : Nat → Nat → Option Nat) (I : Nat → Nat → Int32) (L : Nat → Nat → Int64) (post : Option Value → qS → Prop) (x1 : Int32) (hok : q_ok (qGG D cA b E)) (hw : WfModel (qGG D cA b E) n sh Rf o) (H : fModel_worth_0 D cA b E o n sh Rf I L post x1) : Ev (qGG D cA b E) mModel_worth 8 (0, 0) 0 [(0, .ref o), (1, .int x1)] [] (n, sh, Rf, I, L) post := by
  unfold fModel_worth_0 at H
  refine ev_aload_n dModel_worth_0 rfl ?_
  refine ev_getI hok fk_Model_172 (woModel hw) (fun _ _ _ => rfl) dModel_worth_1 ?_
  refine ev_if_eq 21 dModel_worth_4 (by decide) (fun c1 => ?_) (fun c1 => ?_)
  · have H := H.1 c1
    refine ev_ldc2 (-1000000000000) dModel_worth_21 (q_t8 47 (by decide +kernel) rfl) ?_
    exact ev_lret rfl dModel_worth_24 H
  · have H := H.2 c1
    refine ev_iload_n dModel_worth_7 rfl ?_
    refine ev_iconst (0) dModel_worth_8 (by decide) ?_
    refine ev_aload_n dModel_worth_9 rfl ?_
    refine ev_callV [] [.int 0, .int x1] (B' := (0, 0)) (B'' := (0, 0)) hok mmModel_pans mk_Model_433 (ci := 12) rfl rfl (woModel hw) rfl (Nat.le_of_ble_eq_true rfl) rfl (Nat.le_of_ble_eq_true rfl) dModel_worth_10 rfl (by decide) H (fun v τ p2 => ?_)
    obtain ⟨r3, I4, L5, rfl, rfl, H⟩ := p2
    refine ev_iconst (1) dModel_worth_13 (by decide) ?_
    refine ev_isub dModel_worth_14 ?_
    refine ev_callS [.int x1, .int 0, .int ((r3 - 1))] [] (B' := (0, 0)) (B'' := (0, 0)) hok mmModel_isIn mk_Model_393 rfl (Nat.le_of_ble_eq_true rfl) rfl (Nat.le_of_ble_eq_true rfl) dModel_worth_15 rfl (by decide) H (fun v τ p6 => ?_)
    obtain ⟨r7, I8, L9, rfl, rfl, H⟩ := p6
    refine ev_if_ne 25 dModel_worth_18 (by decide) (fun c10 => ?_) (fun c10 => ?_)
    · have H := H.1 c10
      refine ev_aload_n dModel_worth_25 rfl ?_
      refine ev_callV [] [] (B' := (0, 0)) (B'' := (0, 0)) hok mmModel_goOn mk_Model_783 (ci := 12) rfl rfl (woModel hw) rfl (Nat.le_of_ble_eq_true rfl) rfl (Nat.le_of_ble_eq_true rfl) dModel_worth_26 rfl (by decide) H (fun v τ p11 => ?_)
      obtain ⟨I13, L14, rfl, rfl, H⟩ := p11
      refine ev_aload_n dModel_worth_29 rfl ?_
      refine ev_iload_n dModel_worth_30 rfl ?_
      refine ev_callV [.int x1] [] (B' := (0, 0)) (B'' := (0, 0)) hok mmModel_worthOf mk_Model_509 (ci := 12) rfl rfl (woModel hw) rfl (Nat.le_of_ble_eq_true rfl) rfl (Nat.le_of_ble_eq_true rfl) dModel_worth_31 rfl (by decide) H (fun v τ p15 => ?_)
      obtain ⟨r16, I17, L18, rfl, rfl, H⟩ := p15
      exact ev_lret rfl dModel_worth_34 H
    · have H := H.2 c10
      refine ev_ldc2 (-1000000000000) dModel_worth_21 (q_t8 47 (by decide +kernel) rfl) ?_
      exact ev_lret rfl dModel_worth_24 H
def fModel_live_122 (D : va_G) (cA : FieldType → ClassId) (b : Nat) (E : State → Prop) (o : Nat) (n : Nat) (sh : Nat → qC) (Rf : Nat → Nat → Option Nat) (I : Nat → Nat → Int32) (L : Nat → Nat → Int64) (post : Option Value → qS → Prop) (x1 : Int32) (x2 : Int32) (x3 : Int32) (x4 : Int32) : Prop :=
  Ev (qGG D cA b E) mModel_live 9 (0, 0) 82 [(0, .ref o), (1, .int x1), (2, .int x2), (3, .int x3), (4, .int ((x4 + Int32.ofInt 1)))] [] (n, sh, Rf, I, L) post
set_option maxHeartbeats 4000000 in
set_option maxRecDepth 20000 in
theorem sModel_live_122 {D : va_G} {cA : FieldType → ClassId} {b : Nat} {E : State → Prop} (o : Nat) (n : Nat) (sh : Nat → qC) (Rf : Nat → Nat → Option Nat) (I : Nat → Nat → Int32) (L : Nat → Nat → Int64) (post : Option Value → qS → Prop) (x1 : Int32) (x2 : Int32) (x3 : Int32) (x4 : Int32) (hok : q_ok (qGG D cA b E)) (hw : WfModel (qGG D cA b E) n sh Rf o) (H : fModel_live_122 D cA b E o n sh Rf I L post x1 x2 x3 x4) : Ev (qGG D cA b E) mModel_live 9 (0, 0) 122 [(0, .ref o), (1, .int x1), (2, .int x2), (3, .int x3), (4, .int x4)] [] (n, sh, Rf, I, L) post := by
  unfold fModel_live_122 at H
  refine ev_iinc dModel_live_122 rfl (by decide) ?_
  refine ev_goto 82 dModel_live_125 (by decide) ?_
  exact ev_sub [(0, .ref o), (1, .int x1), (2, .int x2), (3, .int x3), (4, .int ((x4 + Int32.ofInt 1)))] rfl H
def fModel_live_82 (D : va_G) (cA : FieldType → ClassId) (b : Nat) (E : State → Prop) (o : Nat) (n : Nat) (sh : Nat → qC) (Rf : Nat → Nat → Option Nat) (I : Nat → Nat → Int32) (L : Nat → Nat → Int64) (post : Option Value → qS → Prop) (x1 : Int32) (x2 : Int32) (x3 : Int32) (x4 : Int32) : Prop :=
  (((I o 66) ≤ x4 → Ev (qGG D cA b E) mModel_smuggle 2 (0, 0) 0 (lv_args 0 [.ref o]) [] (n, sh, Rf, I, L) (fun v τ => ∃ (I4 : Nat → Nat → Int32) (L5 : Nat → Nat → Int64), v = none ∧ τ = (n, sh, Rf, I4, L5) ∧ Ev (qGG D cA b E) mModel_note 2 (0, 0) 0 (lv_args 0 [.ref o]) [] (n, sh, Rf, I4, L5) (fun v τ => ∃ (I8 : Nat → Nat → Int32) (L9 : Nat → Nat → Int64), v = none ∧ τ = (n, sh, Rf, I8, L9) ∧ ∀ I10 : Nat → Nat → Int32, q_u I8 o 57 ((I8 o 57) + 1) = I10 → Ev (qGG D cA b E) mModel_live 9 (0, 0) 19 [(0, .ref o), (1, .int x1), (2, .int x2), (3, .int x3)] [] (n, sh, Rf, I10, L9) post))) ∧ (¬ (I o 66) ≤ x4 → vp_in x4 6 ∧ ∀ I11 : Nat → Nat → Int32, q_u I (o + 70) (x4 : Int32).toNatClampNeg (-1) = I11 → vp_in x4 6 ∧ ∀ L13 : Nat → Nat → Int64, q_u L (o + 69) (x4 : Int32).toNatClampNeg 0 = L13 → Ev (qGG D cA b E) mModel_isDead 0 (0, 0) 0 (lv_args 0 [.ref o, .int x4]) [] (n, sh, Rf, I11, L13) (fun v τ => ∃ (r16 : Int32) (I17 : Nat → Nat → Int32) (L18 : Nat → Nat → Int64), v = some (.int r16) ∧ τ = (n, sh, Rf, I17, L18) ∧ ((¬ r16 = 0 → fModel_live_122 D cA b E o n sh Rf I17 L18 post x1 x2 x3 x4) ∧ (r16 = 0 → Ev (qGG D cA b E) mModel_act 8 (0, 0) 0 (lv_args 0 [.ref o, .int x4]) [] (n, sh, Rf, I17, L18) (fun v τ => ∃ (I22 : Nat → Nat → Int32) (L23 : Nat → Nat → Int64), v = none ∧ τ = (n, sh, Rf, I22, L23) ∧ fModel_live_122 D cA b E o n sh Rf I22 L23 post x1 x2 x3 x4))))))
set_option maxHeartbeats 4000000 in
set_option maxRecDepth 20000 in
theorem sModel_live_82 {D : va_G} {cA : FieldType → ClassId} {b : Nat} {E : State → Prop} (o : Nat) (n : Nat) (sh : Nat → qC) (Rf : Nat → Nat → Option Nat) (I : Nat → Nat → Int32) (L : Nat → Nat → Int64) (post : Option Value → qS → Prop) (x1 : Int32) (x2 : Int32) (x3 : Int32) (x4 : Int32) (hok : q_ok (qGG D cA b E)) (hw : WfModel (qGG D cA b E) n sh Rf o) (H : fModel_live_82 D cA b E o n sh Rf I L post x1 x2 x3 x4) : Ev (qGG D cA b E) mModel_live 9 (0, 0) 82 [(0, .ref o), (1, .int x1), (2, .int x2), (3, .int x3), (4, .int x4)] [] (n, sh, Rf, I, L) post := by
  unfold fModel_live_82 at H
  refine ev_iload dModel_live_82 rfl ?_
  refine ev_aload_n dModel_live_84 rfl ?_
  refine ev_getI hok fk_Model_387 (woModel hw) (fun _ _ _ => rfl) dModel_live_85 ?_
  refine ev_icmp_ge 128 dModel_live_88 (by decide) (fun c1 => ?_) (fun c1 => ?_)
  · have H := H.1 c1
    refine ev_aload_n dModel_live_128 rfl ?_
    refine ev_callV [] [] (B' := (0, 0)) (B'' := (0, 0)) hok mmModel_smuggle mk_Model_739 (ci := 12) rfl rfl (woModel hw) rfl (Nat.le_of_ble_eq_true rfl) rfl (Nat.le_of_ble_eq_true rfl) dModel_live_129 rfl (by decide) H (fun v τ p2 => ?_)
    obtain ⟨I4, L5, rfl, rfl, H⟩ := p2
    refine ev_aload_n dModel_live_132 rfl ?_
    refine ev_callV [] [] (B' := (0, 0)) (B'' := (0, 0)) hok mmModel_note mk_Model_742 (ci := 12) rfl rfl (woModel hw) rfl (Nat.le_of_ble_eq_true rfl) rfl (Nat.le_of_ble_eq_true rfl) dModel_live_133 rfl (by decide) H (fun v τ p6 => ?_)
    obtain ⟨I8, L9, rfl, rfl, H⟩ := p6
    refine ev_aload_n dModel_live_136 rfl ?_
    refine ev_dup dModel_live_137 rfl ?_
    refine ev_getI hok fk_Model_348 (woModel hw) (fun _ _ _ => rfl) dModel_live_138 ?_
    refine ev_iconst (1) dModel_live_141 (by decide) ?_
    refine ev_iadd dModel_live_142 ?_
    refine ev_putI hok fk_Model_348 (woModel hw) (fun _ _ _ => rfl) rfl rfl dModel_live_143 ?_
    generalize eI10 : q_u I8 o 57 ((I8 o 57) + 1) = I10
    have H := H I10 eI10
    refine ev_goto 19 dModel_live_146 (by decide) ?_
    exact ev_sub [(0, .ref o), (1, .int x1), (2, .int x2), (3, .int x3)] rfl H
  · have H := H.2 c1
    refine ev_aload_n dModel_live_91 rfl ?_
    refine ev_getR hok fk_Model_688 (woModel hw) (fun _ _ _ => rfl) (wrModel_103 hw) dModel_live_92 ?_
    refine ev_iload dModel_live_95 rfl ?_
    refine ev_iconst (-1) dModel_live_97 (by decide) ?_
    obtain ⟨h12, H⟩ := H
    refine ev_iast hok (waModel_103 hw) h12 dModel_live_98 ?_
    generalize eI11 : q_u I (o + 70) (x4 : Int32).toNatClampNeg (-1) = I11
    have H := H I11 eI11
    refine ev_aload_n dModel_live_99 rfl ?_
    refine ev_getR hok fk_Model_691 (woModel hw) (fun _ _ _ => rfl) (wrModel_102 hw) dModel_live_100 ?_
    refine ev_iload dModel_live_103 rfl ?_
    refine ev_lconst 0 dModel_live_105 (by decide) ?_
    obtain ⟨h14, H⟩ := H
    refine ev_last hok (waModel_102 hw) h14 dModel_live_106 ?_
    generalize eL13 : q_u L (o + 69) (x4 : Int32).toNatClampNeg 0 = L13
    have H := H L13 eL13
    refine ev_aload_n dModel_live_107 rfl ?_
    refine ev_iload dModel_live_108 rfl ?_
    refine ev_callV [.int x4] [] (B' := (0, 0)) (B'' := (0, 0)) hok mmModel_isDead mk_Model_733 (ci := 12) rfl rfl (woModel hw) rfl (Nat.le_of_ble_eq_true rfl) rfl (Nat.le_of_ble_eq_true rfl) dModel_live_110 rfl (by decide) H (fun v τ p15 => ?_)
    obtain ⟨r16, I17, L18, rfl, rfl, H⟩ := p15
    refine ev_if_ne 122 dModel_live_113 (by decide) (fun c19 => ?_) (fun c19 => ?_)
    · have H := H.1 c19
      exact ev_sub [(0, .ref o), (1, .int x1), (2, .int x2), (3, .int x3), (4, .int x4)] rfl (sModel_live_122 o n sh Rf I17 L18 post x1 x2 x3 x4 hok hw H)
    · have H := H.2 c19
      refine ev_aload_n dModel_live_116 rfl ?_
      refine ev_iload dModel_live_117 rfl ?_
      refine ev_callV [.int x4] [] (B' := (0, 0)) (B'' := (0, 0)) hok mmModel_act mk_Model_736 (ci := 12) rfl rfl (woModel hw) rfl (Nat.le_of_ble_eq_true rfl) rfl (Nat.le_of_ble_eq_true rfl) dModel_live_119 rfl (by decide) H (fun v τ p20 => ?_)
      obtain ⟨I22, L23, rfl, rfl, H⟩ := p20
      exact ev_sub [(0, .ref o), (1, .int x1), (2, .int x2), (3, .int x3), (4, .int x4)] rfl (sModel_live_122 o n sh Rf I22 L23 post x1 x2 x3 x4 hok hw H)
def fModel_live_50 (D : va_G) (cA : FieldType → ClassId) (b : Nat) (E : State → Prop) (o : Nat) (n : Nat) (sh : Nat → qC) (Rf : Nat → Nat → Option Nat) (I : Nat → Nat → Int32) (L : Nat → Nat → Int64) (post : Option Value → qS → Prop) (x1 : Int32) (x2 : Int32) (x3 : Int32) (x4 : Int32) : Prop :=
  Ev (qGG D cA b E) mModel_pans 0 (0, 0) 0 (lv_args 0 [.ref o]) [] (n, sh, Rf, I, L) (fun v τ => ∃ (r2 : Int32) (I3 : Nat → Nat → Int32) (L4 : Nat → Nat → Int64), v = some (.int r2) ∧ τ = (n, sh, Rf, I3, L4) ∧ ((r2 ≤ x4 → Ev (qGG D cA b E) mModel_eat 1 (0, 0) 0 (lv_args 0 [.ref o]) [] (n, sh, Rf, I3, L4) (fun v τ => ∃ (I8 : Nat → Nat → Int32) (L9 : Nat → Nat → Int64), v = none ∧ τ = (n, sh, Rf, I8, L9) ∧ Ev (qGG D cA b E) mModel_fillTowns 1 (0, 0) 0 (lv_args 0 [.ref o]) [] (n, sh, Rf, I8, L9) (fun v τ => ∃ (I12 : Nat → Nat → Int32) (L13 : Nat → Nat → Int64), v = none ∧ τ = (n, sh, Rf, I12, L13) ∧ Ev (qGG D cA b E) mModel_live 9 (0, 0) 82 [(0, .ref o), (1, .int x1), (2, .int x2), (3, .int x3), (4, .int 0)] [] (n, sh, Rf, I12, L13) post))) ∧ (¬ r2 ≤ x4 → Ev (qGG D cA b E) mModel_draw 3 (0, 0) 0 (lv_args 0 [.ref o, .int x4]) [] (n, sh, Rf, I3, L4) (fun v τ => ∃ (I16 : Nat → Nat → Int32) (L17 : Nat → Nat → Int64), v = none ∧ τ = (n, sh, Rf, I16, L17) ∧ Ev (qGG D cA b E) mModel_live 9 (0, 0) 50 [(0, .ref o), (1, .int x1), (2, .int x2), (3, .int x3), (4, .int ((x4 + Int32.ofInt 1)))] [] (n, sh, Rf, I16, L17) post))))
set_option maxHeartbeats 4000000 in
set_option maxRecDepth 20000 in
theorem sModel_live_50 {D : va_G} {cA : FieldType → ClassId} {b : Nat} {E : State → Prop} (o : Nat) (n : Nat) (sh : Nat → qC) (Rf : Nat → Nat → Option Nat) (I : Nat → Nat → Int32) (L : Nat → Nat → Int64) (post : Option Value → qS → Prop) (x1 : Int32) (x2 : Int32) (x3 : Int32) (x4 : Int32) (hok : q_ok (qGG D cA b E)) (hw : WfModel (qGG D cA b E) n sh Rf o) (H : fModel_live_50 D cA b E o n sh Rf I L post x1 x2 x3 x4) : Ev (qGG D cA b E) mModel_live 9 (0, 0) 50 [(0, .ref o), (1, .int x1), (2, .int x2), (3, .int x3), (4, .int x4)] [] (n, sh, Rf, I, L) post := by
  unfold fModel_live_50 at H
  refine ev_iload dModel_live_50 rfl ?_
  refine ev_aload_n dModel_live_52 rfl ?_
  refine ev_callV [] [.int x4] (B' := (0, 0)) (B'' := (0, 0)) hok mmModel_pans mk_Model_433 (ci := 12) rfl rfl (woModel hw) rfl (Nat.le_of_ble_eq_true rfl) rfl (Nat.le_of_ble_eq_true rfl) dModel_live_53 rfl (by decide) H (fun v τ p1 => ?_)
  obtain ⟨r2, I3, L4, rfl, rfl, H⟩ := p1
  refine ev_icmp_ge 71 dModel_live_56 (by decide) (fun c5 => ?_) (fun c5 => ?_)
  · have H := H.1 c5
    refine ev_aload_n dModel_live_71 rfl ?_
    refine ev_callV [] [] (B' := (0, 0)) (B'' := (0, 0)) hok mmModel_eat mk_Model_727 (ci := 12) rfl rfl (woModel hw) rfl (Nat.le_of_ble_eq_true rfl) rfl (Nat.le_of_ble_eq_true rfl) dModel_live_72 rfl (by decide) H (fun v τ p6 => ?_)
    obtain ⟨I8, L9, rfl, rfl, H⟩ := p6
    refine ev_aload_n dModel_live_75 rfl ?_
    refine ev_callV [] [] (B' := (0, 0)) (B'' := (0, 0)) hok mmModel_fillTowns mk_Model_730 (ci := 12) rfl rfl (woModel hw) rfl (Nat.le_of_ble_eq_true rfl) rfl (Nat.le_of_ble_eq_true rfl) dModel_live_76 rfl (by decide) H (fun v τ p10 => ?_)
    obtain ⟨I12, L13, rfl, rfl, H⟩ := p10
    refine ev_iconst (0) dModel_live_79 (by decide) ?_
    refine ev_istore dModel_live_80 (by decide) ?_
    exact ev_sub [(0, .ref o), (1, .int x1), (2, .int x2), (3, .int x3), (4, .int 0)] rfl H
  · have H := H.2 c5
    refine ev_aload_n dModel_live_59 rfl ?_
    refine ev_iload dModel_live_60 rfl ?_
    refine ev_callV [.int x4] [] (B' := (0, 0)) (B'' := (0, 0)) hok mmModel_draw mk_Model_724 (ci := 12) rfl rfl (woModel hw) rfl (Nat.le_of_ble_eq_true rfl) rfl (Nat.le_of_ble_eq_true rfl) dModel_live_62 rfl (by decide) H (fun v τ p14 => ?_)
    obtain ⟨I16, L17, rfl, rfl, H⟩ := p14
    refine ev_iinc dModel_live_65 rfl (by decide) ?_
    refine ev_goto 50 dModel_live_68 (by decide) ?_
    exact ev_sub [(0, .ref o), (1, .int x1), (2, .int x2), (3, .int x3), (4, .int ((x4 + Int32.ofInt 1)))] rfl H
def fModel_live_19 (D : va_G) (cA : FieldType → ClassId) (b : Nat) (E : State → Prop) (o : Nat) (n : Nat) (sh : Nat → qC) (Rf : Nat → Nat → Option Nat) (I : Nat → Nat → Int32) (L : Nat → Nat → Int64) (post : Option Value → qS → Prop) (x1 : Int32) (x2 : Int32) (x3 : Int32) : Prop :=
  ((x2 ≤ (I o 57) → post none (n, sh, Rf, I, L)) ∧ (¬ x2 ≤ (I o 57) → Ev (qGG D cA b E) mModel_beginMonth 2 (0, 0) 0 (lv_args 0 [.ref o]) [] (n, sh, Rf, I, L) (fun v τ => ∃ (I4 : Nat → Nat → Int32) (L5 : Nat → Nat → Int64), v = none ∧ τ = (n, sh, Rf, I4, L5) ∧ Ev (qGG D cA b E) mModel_make 1 (0, 0) 0 (lv_args 0 [.ref o]) [] (n, sh, Rf, I4, L5) (fun v τ => ∃ (I8 : Nat → Nat → Int32) (L9 : Nat → Nat → Int64), v = none ∧ τ = (n, sh, Rf, I8, L9) ∧ Ev (qGG D cA b E) mModel_tellMonth 6 (0, 0) 0 (lv_args 0 [.ref o]) [] (n, sh, Rf, I8, L9) (fun v τ => ∃ (I12 : Nat → Nat → Int32) (L13 : Nat → Nat → Int64), v = none ∧ τ = (n, sh, Rf, I12, L13) ∧ Ev (qGG D cA b E) mModel_comes 3 (0, 0) 0 (lv_args 0 [.ref o]) [] (n, sh, Rf, I12, L13) (fun v τ => ∃ (I16 : Nat → Nat → Int32) (L17 : Nat → Nat → Int64), v = none ∧ τ = (n, sh, Rf, I16, L17) ∧ Ev (qGG D cA b E) mModel_classes 5 (0, 0) 0 (lv_args 0 [.ref o]) [] (n, sh, Rf, I16, L17) (fun v τ => ∃ (I20 : Nat → Nat → Int32) (L21 : Nat → Nat → Int64), v = none ∧ τ = (n, sh, Rf, I20, L21) ∧ Ev (qGG D cA b E) mModel_live 9 (0, 0) 50 [(0, .ref o), (1, .int x1), (2, .int x2), (3, .int x3), (4, .int 0)] [] (n, sh, Rf, I20, L21) post)))))))
set_option maxHeartbeats 4000000 in
set_option maxRecDepth 20000 in
theorem sModel_live_19 {D : va_G} {cA : FieldType → ClassId} {b : Nat} {E : State → Prop} (o : Nat) (n : Nat) (sh : Nat → qC) (Rf : Nat → Nat → Option Nat) (I : Nat → Nat → Int32) (L : Nat → Nat → Int64) (post : Option Value → qS → Prop) (x1 : Int32) (x2 : Int32) (x3 : Int32) (hok : q_ok (qGG D cA b E)) (hw : WfModel (qGG D cA b E) n sh Rf o) (H : fModel_live_19 D cA b E o n sh Rf I L post x1 x2 x3) : Ev (qGG D cA b E) mModel_live 9 (0, 0) 19 [(0, .ref o), (1, .int x1), (2, .int x2), (3, .int x3)] [] (n, sh, Rf, I, L) post := by
  unfold fModel_live_19 at H
  refine ev_aload_n dModel_live_19 rfl ?_
  refine ev_getI hok fk_Model_348 (woModel hw) (fun _ _ _ => rfl) dModel_live_20 ?_
  refine ev_iload_n dModel_live_23 rfl ?_
  refine ev_icmp_ge 149 dModel_live_24 (by decide) (fun c1 => ?_) (fun c1 => ?_)
  · have H := H.1 c1
    exact ev_vret rfl dModel_live_149 H
  · have H := H.2 c1
    refine ev_aload_n dModel_live_27 rfl ?_
    refine ev_callV [] [] (B' := (0, 0)) (B'' := (0, 0)) hok mmModel_beginMonth mk_Model_709 (ci := 12) rfl rfl (woModel hw) rfl (Nat.le_of_ble_eq_true rfl) rfl (Nat.le_of_ble_eq_true rfl) dModel_live_28 rfl (by decide) H (fun v τ p2 => ?_)
    obtain ⟨I4, L5, rfl, rfl, H⟩ := p2
    refine ev_aload_n dModel_live_31 rfl ?_
    refine ev_callV [] [] (B' := (0, 0)) (B'' := (0, 0)) hok mmModel_make mk_Model_712 (ci := 12) rfl rfl (woModel hw) rfl (Nat.le_of_ble_eq_true rfl) rfl (Nat.le_of_ble_eq_true rfl) dModel_live_32 rfl (by decide) H (fun v τ p6 => ?_)
    obtain ⟨I8, L9, rfl, rfl, H⟩ := p6
    refine ev_aload_n dModel_live_35 rfl ?_
    refine ev_callV [] [] (B' := (0, 0)) (B'' := (0, 0)) hok mmModel_tellMonth mk_Model_715 (ci := 12) rfl rfl (woModel hw) rfl (Nat.le_of_ble_eq_true rfl) rfl (Nat.le_of_ble_eq_true rfl) dModel_live_36 rfl (by decide) H (fun v τ p10 => ?_)
    obtain ⟨I12, L13, rfl, rfl, H⟩ := p10
    refine ev_aload_n dModel_live_39 rfl ?_
    refine ev_callV [] [] (B' := (0, 0)) (B'' := (0, 0)) hok mmModel_comes mk_Model_718 (ci := 12) rfl rfl (woModel hw) rfl (Nat.le_of_ble_eq_true rfl) rfl (Nat.le_of_ble_eq_true rfl) dModel_live_40 rfl (by decide) H (fun v τ p14 => ?_)
    obtain ⟨I16, L17, rfl, rfl, H⟩ := p14
    refine ev_aload_n dModel_live_43 rfl ?_
    refine ev_callV [] [] (B' := (0, 0)) (B'' := (0, 0)) hok mmModel_classes mk_Model_721 (ci := 12) rfl rfl (woModel hw) rfl (Nat.le_of_ble_eq_true rfl) rfl (Nat.le_of_ble_eq_true rfl) dModel_live_44 rfl (by decide) H (fun v τ p18 => ?_)
    obtain ⟨I20, L21, rfl, rfl, H⟩ := p18
    refine ev_iconst (0) dModel_live_47 (by decide) ?_
    refine ev_istore dModel_live_48 (by decide) ?_
    exact ev_sub [(0, .ref o), (1, .int x1), (2, .int x2), (3, .int x3), (4, .int 0)] rfl H
def fModel_live_0 (D : va_G) (cA : FieldType → ClassId) (b : Nat) (E : State → Prop) (o : Nat) (n : Nat) (sh : Nat → qC) (Rf : Nat → Nat → Option Nat) (I : Nat → Nat → Int32) (L : Nat → Nat → Int64) (post : Option Value → qS → Prop) (x1 : Int32) (x2 : Int32) (x3 : Int32) : Prop :=
  ∀ I1 : Nat → Nat → Int32, q_u I o 106 x1 = I1 → ∀ I2 : Nat → Nat → Int32, q_u I1 o 74 x3 = I2 → Ev (qGG D cA b E) mModel_clear 1 (0, 0) 0 (lv_args 0 [.ref o]) [] (n, sh, Rf, I2, L) (fun v τ => ∃ (I5 : Nat → Nat → Int32) (L6 : Nat → Nat → Int64), v = none ∧ τ = (n, sh, Rf, I5, L6) ∧ ∀ I7 : Nat → Nat → Int32, q_u I5 o 57 0 = I7 → Ev (qGG D cA b E) mModel_live 9 (0, 0) 19 [(0, .ref o), (1, .int x1), (2, .int x2), (3, .int x3)] [] (n, sh, Rf, I7, L6) post)
set_option maxHeartbeats 4000000 in
set_option maxRecDepth 20000 in
theorem sModel_live_0 {D : va_G} {cA : FieldType → ClassId} {b : Nat} {E : State → Prop} (o : Nat) (n : Nat) (sh : Nat → qC) (Rf : Nat → Nat → Option Nat) (I : Nat → Nat → Int32) (L : Nat → Nat → Int64) (post : Option Value → qS → Prop) (x1 : Int32) (x2 : Int32) (x3 : Int32) (hok : q_ok (qGG D cA b E)) (hw : WfModel (qGG D cA b E) n sh Rf o) (H : fModel_live_0 D cA b E o n sh Rf I L post x1 x2 x3) : Ev (qGG D cA b E) mModel_live 9 (0, 0) 0 [(0, .ref o), (1, .int x1), (2, .int x2), (3, .int x3)] [] (n, sh, Rf, I, L) post := by
  unfold fModel_live_0 at H
  refine ev_aload_n dModel_live_0 rfl ?_
  refine ev_iload_n dModel_live_1 rfl ?_
  refine ev_putI hok fk_Model_516 (woModel hw) (fun _ _ _ => rfl) rfl rfl dModel_live_2 ?_
  generalize eI1 : q_u I o 106 x1 = I1
  have H := H I1 eI1
  refine ev_aload_n dModel_live_5 rfl ?_
  refine ev_iload_n dModel_live_6 rfl ?_
  refine ev_putI hok fk_Model_444 (woModel hw) (fun _ _ _ => rfl) rfl rfl dModel_live_7 ?_
  generalize eI2 : q_u I1 o 74 x3 = I2
  have H := H I2 eI2
  refine ev_aload_n dModel_live_10 rfl ?_
  refine ev_callV [] [] (B' := (0, 0)) (B'' := (0, 0)) hok mmModel_clear mk_Model_706 (ci := 12) rfl rfl (woModel hw) rfl (Nat.le_of_ble_eq_true rfl) rfl (Nat.le_of_ble_eq_true rfl) dModel_live_11 rfl (by decide) H (fun v τ p3 => ?_)
  obtain ⟨I5, L6, rfl, rfl, H⟩ := p3
  refine ev_aload_n dModel_live_14 rfl ?_
  refine ev_iconst (0) dModel_live_15 (by decide) ?_
  refine ev_putI hok fk_Model_348 (woModel hw) (fun _ _ _ => rfl) rfl rfl dModel_live_16 ?_
  generalize eI7 : q_u I5 o 57 0 = I7
  have H := H I7 eI7
  exact ev_sub [(0, .ref o), (1, .int x1), (2, .int x2), (3, .int x3)] rfl H
def fModel_run_0 (D : va_G) (cA : FieldType → ClassId) (b : Nat) (E : State → Prop) (o : Nat) (n : Nat) (sh : Nat → qC) (Rf : Nat → Nat → Option Nat) (I : Nat → Nat → Int32) (L : Nat → Nat → Int64) (post : Option Value → qS → Prop) (x1 : Int32) (x2 : Int32) (x3 : Int32) : Prop :=
  Ev (qGG D cA b E) mModel_isIn 0 (0, 0) 0 (lv_args 0 [.int x1, .int 0, .int 3]) [] (n, sh, Rf, I, L) (fun v τ => ∃ (r2 : Int32) (I3 : Nat → Nat → Int32) (L4 : Nat → Nat → Int64), v = some (.int r2) ∧ τ = (n, sh, Rf, I3, L4) ∧ ((r2 = 0 → post (some (.int ((-1)))) (n, sh, Rf, I3, L4)) ∧ (¬ r2 = 0 → Ev (qGG D cA b E) mModel_isIn 0 (0, 0) 0 (lv_args 0 [.int x2, .int 0, .int 240]) [] (n, sh, Rf, I3, L4) (fun v τ => ∃ (r7 : Int32) (I8 : Nat → Nat → Int32) (L9 : Nat → Nat → Int64), v = some (.int r7) ∧ τ = (n, sh, Rf, I8, L9) ∧ ((¬ r7 = 0 → Ev (qGG D cA b E) mModel_live 9 (0, 0) 0 (lv_args 0 [.ref o, .int x1, .int x2, .int x3]) [] (n, sh, Rf, I8, L9) (fun v τ => ∃ (I13 : Nat → Nat → Int32) (L14 : Nat → Nat → Int64), v = none ∧ τ = (n, sh, Rf, I13, L14) ∧ ∀ I15 : Nat → Nat → Int32, q_u I13 o 135 1 = I15 → ∀ I16 : Nat → Nat → Int32, q_u I15 o 136 x2 = I16 → ∀ I17 : Nat → Nat → Int32, q_u I16 o 137 (I16 o 66) = I17 → Ev (qGG D cA b E) mModel_lay 0 (0, 0) 0 (lv_args 0 [.ref o, .int x1, .int 5]) [] (n, sh, Rf, I17, L14) (fun v τ => ∃ (I20 : Nat → Nat → Int32) (L21 : Nat → Nat → Int64), v = none ∧ τ = (n, sh, Rf, I20, L21) ∧ Ev (qGG D cA b E) mModel_keep 1 (0, 0) 0 (lv_args 0 [.ref o]) [] (n, sh, Rf, I20, L21) (fun v τ => ∃ (I24 : Nat → Nat → Int32) (L25 : Nat → Nat → Int64), v = none ∧ τ = (n, sh, Rf, I24, L25) ∧ post (some (.int ((I24 o 104)))) (n, sh, Rf, I24, L25))))) ∧ (r7 = 0 → post (some (.int ((-1)))) (n, sh, Rf, I8, L9)))))))
set_option maxHeartbeats 4000000 in
set_option maxRecDepth 20000 in
theorem sModel_run_0 {D : va_G} {cA : FieldType → ClassId} {b : Nat} {E : State → Prop} (o : Nat) (n : Nat) (sh : Nat → qC) (Rf : Nat → Nat → Option Nat) (I : Nat → Nat → Int32) (L : Nat → Nat → Int64) (post : Option Value → qS → Prop) (x1 : Int32) (x2 : Int32) (x3 : Int32) (hok : q_ok (qGG D cA b E)) (hw : WfModel (qGG D cA b E) n sh Rf o) (H : fModel_run_0 D cA b E o n sh Rf I L post x1 x2 x3) : Ev (qGG D cA b E) mModel_run 10 (0, 0) 0 [(0, .ref o), (1, .int x1), (2, .int x2), (3, .int x3)] [] (n, sh, Rf, I, L) post := by
  unfold fModel_run_0 at H
  refine ev_iload_n dModel_run_0 rfl ?_
  refine ev_iconst (0) dModel_run_1 (by decide) ?_
  refine ev_iconst (3) dModel_run_2 (by decide) ?_
  refine ev_callS [.int x1, .int 0, .int 3] [] (B' := (0, 0)) (B'' := (0, 0)) hok mmModel_isIn mk_Model_393 rfl (Nat.le_of_ble_eq_true rfl) rfl (Nat.le_of_ble_eq_true rfl) dModel_run_3 rfl (by decide) H (fun v τ p1 => ?_)
  obtain ⟨r2, I3, L4, rfl, rfl, H⟩ := p1
  refine ev_if_eq 20 dModel_run_6 (by decide) (fun c5 => ?_) (fun c5 => ?_)
  · have H := H.1 c5
    refine ev_iconst (-1) dModel_run_20 (by decide) ?_
    exact ev_iret rfl dModel_run_21 H
  · have H := H.2 c5
    refine ev_iload_n dModel_run_9 rfl ?_
    refine ev_iconst (0) dModel_run_10 (by decide) ?_
    refine ev_sipush (240) dModel_run_11 (by decide) ?_
    refine ev_callS [.int x2, .int 0, .int 240] [] (B' := (0, 0)) (B'' := (0, 0)) hok mmModel_isIn mk_Model_393 rfl (Nat.le_of_ble_eq_true rfl) rfl (Nat.le_of_ble_eq_true rfl) dModel_run_14 rfl (by decide) H (fun v τ p6 => ?_)
    obtain ⟨r7, I8, L9, rfl, rfl, H⟩ := p6
    refine ev_if_ne 22 dModel_run_17 (by decide) (fun c10 => ?_) (fun c10 => ?_)
    · have H := H.1 c10
      refine ev_aload_n dModel_run_22 rfl ?_
      refine ev_iload_n dModel_run_23 rfl ?_
      refine ev_iload_n dModel_run_24 rfl ?_
      refine ev_iload_n dModel_run_25 rfl ?_
      refine ev_callV [.int x1, .int x2, .int x3] [] (B' := (0, 0)) (B'' := (0, 0)) hok mmModel_live mk_Model_763 (ci := 12) rfl rfl (woModel hw) rfl (Nat.le_of_ble_eq_true rfl) rfl (Nat.le_of_ble_eq_true rfl) dModel_run_26 rfl (by decide) H (fun v τ p11 => ?_)
      obtain ⟨I13, L14, rfl, rfl, H⟩ := p11
      refine ev_aload_n dModel_run_29 rfl ?_
      refine ev_iconst (1) dModel_run_30 (by decide) ?_
      refine ev_putI hok fk_Model_172 (woModel hw) (fun _ _ _ => rfl) (q_bz (Or.inr rfl)) (q_bf (Or.inr rfl)) dModel_run_31 ?_
      generalize eI15 : q_u I13 o 135 1 = I15
      have H := H I15 eI15
      refine ev_aload_n dModel_run_34 rfl ?_
      refine ev_iload_n dModel_run_35 rfl ?_
      refine ev_putI hok fk_Model_766 (woModel hw) (fun _ _ _ => rfl) rfl rfl dModel_run_36 ?_
      generalize eI16 : q_u I15 o 136 x2 = I16
      have H := H I16 eI16
      refine ev_aload_n dModel_run_39 rfl ?_
      refine ev_aload_n dModel_run_40 rfl ?_
      refine ev_getI hok fk_Model_387 (woModel hw) (fun _ _ _ => rfl) dModel_run_41 ?_
      refine ev_putI hok fk_Model_769 (woModel hw) (fun _ _ _ => rfl) rfl rfl dModel_run_44 ?_
      generalize eI17 : q_u I16 o 137 (I16 o 66) = I17
      have H := H I17 eI17
      refine ev_aload_n dModel_run_47 rfl ?_
      refine ev_iload_n dModel_run_48 rfl ?_
      refine ev_iconst (5) dModel_run_49 (by decide) ?_
      refine ev_callV [.int x1, .int 5] [] (B' := (0, 0)) (B'' := (0, 0)) hok mmModel_lay mk_Model_297 (ci := 12) rfl rfl (woModel hw) rfl (Nat.le_of_ble_eq_true rfl) rfl (Nat.le_of_ble_eq_true rfl) dModel_run_50 rfl (by decide) H (fun v τ p18 => ?_)
      obtain ⟨I20, L21, rfl, rfl, H⟩ := p18
      refine ev_aload_n dModel_run_53 rfl ?_
      refine ev_callV [] [] (B' := (0, 0)) (B'' := (0, 0)) hok mmModel_keep mk_Model_772 (ci := 12) rfl rfl (woModel hw) rfl (Nat.le_of_ble_eq_true rfl) rfl (Nat.le_of_ble_eq_true rfl) dModel_run_54 rfl (by decide) H (fun v τ p22 => ?_)
      obtain ⟨I24, L25, rfl, rfl, H⟩ := p22
      refine ev_aload_n dModel_run_57 rfl ?_
      refine ev_getI hok fk_Model_454 (woModel hw) (fun _ _ _ => rfl) dModel_run_58 ?_
      exact ev_iret rfl dModel_run_61 H
    · have H := H.2 c10
      refine ev_iconst (-1) dModel_run_20 (by decide) ?_
      exact ev_iret rfl dModel_run_21 H
def fModel_tryOut_0 (D : va_G) (cA : FieldType → ClassId) (b : Nat) (E : State → Prop) (o : Nat) (n : Nat) (sh : Nat → qC) (Rf : Nat → Nat → Option Nat) (I : Nat → Nat → Int32) (L : Nat → Nat → Int64) (post : Option Value → qS → Prop) (x1 : Int32) (x2 : Int32) (x3 : Int32) (x4 : Int32) : Prop :=
  Ev (qGG D cA b E) mModel_live 9 (0, 0) 0 (lv_args 0 [.ref o, .int x2, .int x3, .int x4]) [] (n, sh, Rf, I, L) (fun v τ => ∃ (I3 : Nat → Nat → Int32) (L4 : Nat → Nat → Int64), v = none ∧ τ = (n, sh, Rf, I3, L4) ∧ vp_in x1 2 ∧ ∀ L5 : Nat → Nat → Int64, q_u L4 (o + 77) (x1 : Int32).toNatClampNeg (L4 o 112) = L5 → vp_in x1 2 ∧ ∀ L7 : Nat → Nat → Int64, q_u L5 (o + 78) (x1 : Int32).toNatClampNeg (L5 o 118) = L7 → vp_in x1 2 ∧ ∀ L9 : Nat → Nat → Int64, q_u L7 (o + 79) (x1 : Int32).toNatClampNeg (L7 o 119) = L9 → vp_in x1 2 ∧ ∀ L11 : Nat → Nat → Int64, q_u L9 (o + 80) (x1 : Int32).toNatClampNeg (L9 o 114) = L11 → post none (n, sh, Rf, I3, L11))
set_option maxHeartbeats 4000000 in
set_option maxRecDepth 20000 in
theorem sModel_tryOut_0 {D : va_G} {cA : FieldType → ClassId} {b : Nat} {E : State → Prop} (o : Nat) (n : Nat) (sh : Nat → qC) (Rf : Nat → Nat → Option Nat) (I : Nat → Nat → Int32) (L : Nat → Nat → Int64) (post : Option Value → qS → Prop) (x1 : Int32) (x2 : Int32) (x3 : Int32) (x4 : Int32) (hok : q_ok (qGG D cA b E)) (hw : WfModel (qGG D cA b E) n sh Rf o) (H : fModel_tryOut_0 D cA b E o n sh Rf I L post x1 x2 x3 x4) : Ev (qGG D cA b E) mModel_tryOut 10 (0, 0) 0 [(0, .ref o), (1, .int x1), (2, .int x2), (3, .int x3), (4, .int x4)] [] (n, sh, Rf, I, L) post := by
  unfold fModel_tryOut_0 at H
  refine ev_aload_n dModel_tryOut_0 rfl ?_
  refine ev_iload_n dModel_tryOut_1 rfl ?_
  refine ev_iload_n dModel_tryOut_2 rfl ?_
  refine ev_iload dModel_tryOut_3 rfl ?_
  refine ev_callV [.int x2, .int x3, .int x4] [] (B' := (0, 0)) (B'' := (0, 0)) hok mmModel_live mk_Model_763 (ci := 12) rfl rfl (woModel hw) rfl (Nat.le_of_ble_eq_true rfl) rfl (Nat.le_of_ble_eq_true rfl) dModel_tryOut_5 rfl (by decide) H (fun v τ p1 => ?_)
  obtain ⟨I3, L4, rfl, rfl, H⟩ := p1
  refine ev_aload_n dModel_tryOut_8 rfl ?_
  refine ev_getR hok fk_Model_786 (woModel hw) (fun _ _ _ => rfl) (wrModel_138 hw) dModel_tryOut_9 ?_
  refine ev_iload_n dModel_tryOut_12 rfl ?_
  refine ev_aload_n dModel_tryOut_13 rfl ?_
  refine ev_getL hok fk_Model_630 (woModel hw) (fun _ _ _ => rfl) dModel_tryOut_14 ?_
  obtain ⟨h6, H⟩ := H
  refine ev_last hok (waModel_138 hw) h6 dModel_tryOut_17 ?_
  generalize eL5 : q_u L4 (o + 77) (x1 : Int32).toNatClampNeg (L4 o 112) = L5
  have H := H L5 eL5
  refine ev_aload_n dModel_tryOut_18 rfl ?_
  refine ev_getR hok fk_Model_789 (woModel hw) (fun _ _ _ => rfl) (wrModel_139 hw) dModel_tryOut_19 ?_
  refine ev_iload_n dModel_tryOut_22 rfl ?_
  refine ev_aload_n dModel_tryOut_23 rfl ?_
  refine ev_getL hok fk_Model_614 (woModel hw) (fun _ _ _ => rfl) dModel_tryOut_24 ?_
  obtain ⟨h8, H⟩ := H
  refine ev_last hok (waModel_139 hw) h8 dModel_tryOut_27 ?_
  generalize eL7 : q_u L5 (o + 78) (x1 : Int32).toNatClampNeg (L5 o 118) = L7
  have H := H L7 eL7
  refine ev_aload_n dModel_tryOut_28 rfl ?_
  refine ev_getR hok fk_Model_792 (woModel hw) (fun _ _ _ => rfl) (wrModel_140 hw) dModel_tryOut_29 ?_
  refine ev_iload_n dModel_tryOut_32 rfl ?_
  refine ev_aload_n dModel_tryOut_33 rfl ?_
  refine ev_getL hok fk_Model_611 (woModel hw) (fun _ _ _ => rfl) dModel_tryOut_34 ?_
  obtain ⟨h10, H⟩ := H
  refine ev_last hok (waModel_140 hw) h10 dModel_tryOut_37 ?_
  generalize eL9 : q_u L7 (o + 79) (x1 : Int32).toNatClampNeg (L7 o 119) = L9
  have H := H L9 eL9
  refine ev_aload_n dModel_tryOut_38 rfl ?_
  refine ev_getR hok fk_Model_795 (woModel hw) (fun _ _ _ => rfl) (wrModel_141 hw) dModel_tryOut_39 ?_
  refine ev_iload_n dModel_tryOut_42 rfl ?_
  refine ev_aload_n dModel_tryOut_43 rfl ?_
  refine ev_getL hok fk_Model_581 (woModel hw) (fun _ _ _ => rfl) dModel_tryOut_44 ?_
  obtain ⟨h12, H⟩ := H
  refine ev_last hok (waModel_141 hw) h12 dModel_tryOut_47 ?_
  generalize eL11 : q_u L9 (o + 80) (x1 : Int32).toNatClampNeg (L9 o 114) = L11
  have H := H L11 eL11
  exact ev_vret rfl dModel_tryOut_48 H
def fModel_judge_130 (D : va_G) (cA : FieldType → ClassId) (b : Nat) (E : State → Prop) (o : Nat) (n : Nat) (sh : Nat → qC) (Rf : Nat → Nat → Option Nat) (I : Nat → Nat → Int32) (L : Nat → Nat → Int64) (post : Option Value → qS → Prop) (x1 : Int32) (x2 : Int32) (x3 : Int32) (x4 : Int32) (z0 : Int32) (z1 : Int32) : Prop :=
  ((z1 = z0 → (((lg_cmp ((L (o + 78) 0) * (L (o + 79) 1)) ((L (o + 78) 1) * (L (o + 79) 0))) = 0 → (((lg_cmp (L (o + 80) 0) (L (o + 80) 1)) ≤ 0 → ((0 ≤ (lg_cmp (L (o + 80) 0) (L (o + 80) 1)) → post (some (.int 2)) (n, sh, Rf, I, L)) ∧ (¬ 0 ≤ (lg_cmp (L (o + 80) 0) (L (o + 80) 1)) → post (some (.int 1)) (n, sh, Rf, I, L)))) ∧ (¬ (lg_cmp (L (o + 80) 0) (L (o + 80) 1)) ≤ 0 → post (some (.int 0)) (n, sh, Rf, I, L)))) ∧ (¬ (lg_cmp ((L (o + 78) 0) * (L (o + 79) 1)) ((L (o + 78) 1) * (L (o + 79) 0))) = 0 → ((0 ≤ (lg_cmp ((L (o + 78) 0) * (L (o + 79) 1)) ((L (o + 78) 1) * (L (o + 79) 0))) → post (some (.int 1)) (n, sh, Rf, I, L)) ∧ (¬ 0 ≤ (lg_cmp ((L (o + 78) 0) * (L (o + 79) 1)) ((L (o + 78) 1) * (L (o + 79) 0))) → post (some (.int 0)) (n, sh, Rf, I, L)))))) ∧ (¬ z1 = z0 → (((lg_cmp (L (o + 79) 0) 0) ≤ 0 → post (some (.int 1)) (n, sh, Rf, I, L)) ∧ (¬ (lg_cmp (L (o + 79) 0) 0) ≤ 0 → post (some (.int 0)) (n, sh, Rf, I, L)))))
set_option maxHeartbeats 4000000 in
set_option maxRecDepth 20000 in
theorem sModel_judge_130 {D : va_G} {cA : FieldType → ClassId} {b : Nat} {E : State → Prop} (o : Nat) (n : Nat) (sh : Nat → qC) (Rf : Nat → Nat → Option Nat) (I : Nat → Nat → Int32) (L : Nat → Nat → Int64) (post : Option Value → qS → Prop) (x1 : Int32) (x2 : Int32) (x3 : Int32) (x4 : Int32) (z0 : Int32) (z1 : Int32) (hok : q_ok (qGG D cA b E)) (hw : WfModel (qGG D cA b E) n sh Rf o) (H : fModel_judge_130 D cA b E o n sh Rf I L post x1 x2 x3 x4 z0 z1) : Ev (qGG D cA b E) mModel_judge 11 (0, 0) 130 [(0, .ref o), (1, .int x1), (2, .int x2), (3, .int x3), (4, .int x4)] [.int z0, .int z1] (n, sh, Rf, I, L) post := by
  unfold fModel_judge_130 at H
  refine ev_icmp_eq 150 dModel_judge_130 (by decide) (fun c1 => ?_) (fun c1 => ?_)
  · have H := H.1 c1
    refine ev_aload_n dModel_judge_150 rfl ?_
    refine ev_getR hok fk_Model_789 (woModel hw) (fun _ _ _ => rfl) (wrModel_139 hw) dModel_judge_151 ?_
    refine ev_iconst (0) dModel_judge_154 (by decide) ?_
    refine ev_lald hok (waModel_139 hw) (by unfold vp_in; decide) dModel_judge_155 ?_
    rw [show (0 : Int32).toNatClampNeg = 0 from rfl]
    refine ev_aload_n dModel_judge_156 rfl ?_
    refine ev_getR hok fk_Model_792 (woModel hw) (fun _ _ _ => rfl) (wrModel_140 hw) dModel_judge_157 ?_
    refine ev_iconst (1) dModel_judge_160 (by decide) ?_
    refine ev_lald hok (waModel_140 hw) (by unfold vp_in; decide) dModel_judge_161 ?_
    rw [show (1 : Int32).toNatClampNeg = 1 from rfl]
    refine ev_lmul dModel_judge_162 ?_
    refine ev_lstore dModel_judge_163 (by decide) ?_
    refine ev_aload_n dModel_judge_165 rfl ?_
    refine ev_getR hok fk_Model_789 (woModel hw) (fun _ _ _ => rfl) (wrModel_139 hw) dModel_judge_166 ?_
    refine ev_iconst (1) dModel_judge_169 (by decide) ?_
    refine ev_lald hok (waModel_139 hw) (by unfold vp_in; decide) dModel_judge_170 ?_
    rw [show (1 : Int32).toNatClampNeg = 1 from rfl]
    refine ev_aload_n dModel_judge_171 rfl ?_
    refine ev_getR hok fk_Model_792 (woModel hw) (fun _ _ _ => rfl) (wrModel_140 hw) dModel_judge_172 ?_
    refine ev_iconst (0) dModel_judge_175 (by decide) ?_
    refine ev_lald hok (waModel_140 hw) (by unfold vp_in; decide) dModel_judge_176 ?_
    rw [show (0 : Int32).toNatClampNeg = 0 from rfl]
    refine ev_lmul dModel_judge_177 ?_
    refine ev_lstore dModel_judge_178 (by decide) ?_
    refine ev_lload dModel_judge_180 rfl ?_
    refine ev_lload dModel_judge_182 rfl ?_
    refine ev_lcmp dModel_judge_184 ?_
    refine ev_if_eq 202 dModel_judge_185 (by decide) (fun c2 => ?_) (fun c2 => ?_)
    · have H := H.1 c2
      refine ev_aload_n dModel_judge_202 rfl ?_
      refine ev_getR hok fk_Model_795 (woModel hw) (fun _ _ _ => rfl) (wrModel_141 hw) dModel_judge_203 ?_
      refine ev_iconst (0) dModel_judge_206 (by decide) ?_
      refine ev_lald hok (waModel_141 hw) (by unfold vp_in; decide) dModel_judge_207 ?_
      rw [show (0 : Int32).toNatClampNeg = 0 from rfl]
      refine ev_aload_n dModel_judge_208 rfl ?_
      refine ev_getR hok fk_Model_795 (woModel hw) (fun _ _ _ => rfl) (wrModel_141 hw) dModel_judge_209 ?_
      refine ev_iconst (1) dModel_judge_212 (by decide) ?_
      refine ev_lald hok (waModel_141 hw) (by unfold vp_in; decide) dModel_judge_213 ?_
      rw [show (1 : Int32).toNatClampNeg = 1 from rfl]
      refine ev_lcmp dModel_judge_214 ?_
      refine ev_if_le 222 dModel_judge_215 (by decide) (fun c3 => ?_) (fun c3 => ?_)
      · have H := H.1 c3
        refine ev_aload_n dModel_judge_222 rfl ?_
        refine ev_getR hok fk_Model_795 (woModel hw) (fun _ _ _ => rfl) (wrModel_141 hw) dModel_judge_223 ?_
        refine ev_iconst (0) dModel_judge_226 (by decide) ?_
        refine ev_lald hok (waModel_141 hw) (by unfold vp_in; decide) dModel_judge_227 ?_
        rw [show (0 : Int32).toNatClampNeg = 0 from rfl]
        refine ev_aload_n dModel_judge_228 rfl ?_
        refine ev_getR hok fk_Model_795 (woModel hw) (fun _ _ _ => rfl) (wrModel_141 hw) dModel_judge_229 ?_
        refine ev_iconst (1) dModel_judge_232 (by decide) ?_
        refine ev_lald hok (waModel_141 hw) (by unfold vp_in; decide) dModel_judge_233 ?_
        rw [show (1 : Int32).toNatClampNeg = 1 from rfl]
        refine ev_lcmp dModel_judge_234 ?_
        refine ev_if_ge 242 dModel_judge_235 (by decide) (fun c4 => ?_) (fun c4 => ?_)
        · have H := H.1 c4
          refine ev_iconst (2) dModel_judge_242 (by decide) ?_
          exact ev_iret rfl dModel_judge_243 H
        · have H := H.2 c4
          refine ev_iconst (1) dModel_judge_238 (by decide) ?_
          refine ev_goto 243 dModel_judge_239 (by decide) ?_
          exact ev_iret rfl dModel_judge_243 H
      · have H := H.2 c3
        refine ev_iconst (0) dModel_judge_218 (by decide) ?_
        refine ev_goto 243 dModel_judge_219 (by decide) ?_
        exact ev_iret rfl dModel_judge_243 H
    · have H := H.2 c2
      refine ev_lload dModel_judge_188 rfl ?_
      refine ev_lload dModel_judge_190 rfl ?_
      refine ev_lcmp dModel_judge_192 ?_
      refine ev_if_ge 200 dModel_judge_193 (by decide) (fun c5 => ?_) (fun c5 => ?_)
      · have H := H.1 c5
        refine ev_iconst (1) dModel_judge_200 (by decide) ?_
        exact ev_iret rfl dModel_judge_201 H
      · have H := H.2 c5
        refine ev_iconst (0) dModel_judge_196 (by decide) ?_
        refine ev_goto 201 dModel_judge_197 (by decide) ?_
        exact ev_iret rfl dModel_judge_201 H
  · have H := H.2 c1
    refine ev_aload_n dModel_judge_133 rfl ?_
    refine ev_getR hok fk_Model_792 (woModel hw) (fun _ _ _ => rfl) (wrModel_140 hw) dModel_judge_134 ?_
    refine ev_iconst (0) dModel_judge_137 (by decide) ?_
    refine ev_lald hok (waModel_140 hw) (by unfold vp_in; decide) dModel_judge_138 ?_
    rw [show (0 : Int32).toNatClampNeg = 0 from rfl]
    refine ev_lconst 0 dModel_judge_139 (by decide) ?_
    refine ev_lcmp dModel_judge_140 ?_
    refine ev_if_le 148 dModel_judge_141 (by decide) (fun c6 => ?_) (fun c6 => ?_)
    · have H := H.1 c6
      refine ev_iconst (1) dModel_judge_148 (by decide) ?_
      exact ev_iret rfl dModel_judge_149 H
    · have H := H.2 c6
      refine ev_iconst (0) dModel_judge_144 (by decide) ?_
      refine ev_goto 149 dModel_judge_145 (by decide) ?_
      exact ev_iret rfl dModel_judge_149 H
def fModel_judge_114 (D : va_G) (cA : FieldType → ClassId) (b : Nat) (E : State → Prop) (o : Nat) (n : Nat) (sh : Nat → qC) (Rf : Nat → Nat → Option Nat) (I : Nat → Nat → Int32) (L : Nat → Nat → Int64) (post : Option Value → qS → Prop) (x1 : Int32) (x2 : Int32) (x3 : Int32) (x4 : Int32) (z0 : Int32) : Prop :=
  ((¬ (lg_cmp (L (o + 79) 1) 0) = 0 → fModel_judge_130 D cA b E o n sh Rf I L post x1 x2 x3 x4 0 z0) ∧ ((lg_cmp (L (o + 79) 1) 0) = 0 → fModel_judge_130 D cA b E o n sh Rf I L post x1 x2 x3 x4 1 z0))
set_option maxHeartbeats 4000000 in
set_option maxRecDepth 20000 in
theorem sModel_judge_114 {D : va_G} {cA : FieldType → ClassId} {b : Nat} {E : State → Prop} (o : Nat) (n : Nat) (sh : Nat → qC) (Rf : Nat → Nat → Option Nat) (I : Nat → Nat → Int32) (L : Nat → Nat → Int64) (post : Option Value → qS → Prop) (x1 : Int32) (x2 : Int32) (x3 : Int32) (x4 : Int32) (z0 : Int32) (hok : q_ok (qGG D cA b E)) (hw : WfModel (qGG D cA b E) n sh Rf o) (H : fModel_judge_114 D cA b E o n sh Rf I L post x1 x2 x3 x4 z0) : Ev (qGG D cA b E) mModel_judge 11 (0, 0) 114 [(0, .ref o), (1, .int x1), (2, .int x2), (3, .int x3), (4, .int x4)] [.int z0] (n, sh, Rf, I, L) post := by
  unfold fModel_judge_114 at H
  refine ev_aload_n dModel_judge_114 rfl ?_
  refine ev_getR hok fk_Model_792 (woModel hw) (fun _ _ _ => rfl) (wrModel_140 hw) dModel_judge_115 ?_
  refine ev_iconst (1) dModel_judge_118 (by decide) ?_
  refine ev_lald hok (waModel_140 hw) (by unfold vp_in; decide) dModel_judge_119 ?_
  rw [show (1 : Int32).toNatClampNeg = 1 from rfl]
  refine ev_lconst 0 dModel_judge_120 (by decide) ?_
  refine ev_lcmp dModel_judge_121 ?_
  refine ev_if_ne 129 dModel_judge_122 (by decide) (fun c1 => ?_) (fun c1 => ?_)
  · have H := H.1 c1
    refine ev_iconst (0) dModel_judge_129 (by decide) ?_
    exact ev_sub [(0, .ref o), (1, .int x1), (2, .int x2), (3, .int x3), (4, .int x4)] rfl (sModel_judge_130 o n sh Rf I L post x1 x2 x3 x4 0 z0 hok hw H)
  · have H := H.2 c1
    refine ev_iconst (1) dModel_judge_125 (by decide) ?_
    refine ev_goto 130 dModel_judge_126 (by decide) ?_
    exact ev_sub [(0, .ref o), (1, .int x1), (2, .int x2), (3, .int x3), (4, .int x4)] rfl (sModel_judge_130 o n sh Rf I L post x1 x2 x3 x4 1 z0 hok hw H)
def fModel_judge_60 (D : va_G) (cA : FieldType → ClassId) (b : Nat) (E : State → Prop) (o : Nat) (n : Nat) (sh : Nat → qC) (Rf : Nat → Nat → Option Nat) (I : Nat → Nat → Int32) (L : Nat → Nat → Int64) (post : Option Value → qS → Prop) (x1 : Int32) (x2 : Int32) (x3 : Int32) (x4 : Int32) : Prop :=
  (((lg_cmp (L (o + 77) 0) (L (o + 77) 1)) = 0 → ((¬ (lg_cmp (L (o + 79) 0) 0) = 0 → fModel_judge_114 D cA b E o n sh Rf I L post x1 x2 x3 x4 0) ∧ ((lg_cmp (L (o + 79) 0) 0) = 0 → fModel_judge_114 D cA b E o n sh Rf I L post x1 x2 x3 x4 1))) ∧ (¬ (lg_cmp (L (o + 77) 0) (L (o + 77) 1)) = 0 → ((0 ≤ (lg_cmp (L (o + 77) 0) (L (o + 77) 1)) → post (some (.int 1)) (n, sh, Rf, I, L)) ∧ (¬ 0 ≤ (lg_cmp (L (o + 77) 0) (L (o + 77) 1)) → post (some (.int 0)) (n, sh, Rf, I, L)))))
set_option maxHeartbeats 4000000 in
set_option maxRecDepth 20000 in
theorem sModel_judge_60 {D : va_G} {cA : FieldType → ClassId} {b : Nat} {E : State → Prop} (o : Nat) (n : Nat) (sh : Nat → qC) (Rf : Nat → Nat → Option Nat) (I : Nat → Nat → Int32) (L : Nat → Nat → Int64) (post : Option Value → qS → Prop) (x1 : Int32) (x2 : Int32) (x3 : Int32) (x4 : Int32) (hok : q_ok (qGG D cA b E)) (hw : WfModel (qGG D cA b E) n sh Rf o) (H : fModel_judge_60 D cA b E o n sh Rf I L post x1 x2 x3 x4) : Ev (qGG D cA b E) mModel_judge 11 (0, 0) 60 [(0, .ref o), (1, .int x1), (2, .int x2), (3, .int x3), (4, .int x4)] [] (n, sh, Rf, I, L) post := by
  unfold fModel_judge_60 at H
  refine ev_aload_n dModel_judge_60 rfl ?_
  refine ev_getR hok fk_Model_786 (woModel hw) (fun _ _ _ => rfl) (wrModel_138 hw) dModel_judge_61 ?_
  refine ev_iconst (0) dModel_judge_64 (by decide) ?_
  refine ev_lald hok (waModel_138 hw) (by unfold vp_in; decide) dModel_judge_65 ?_
  rw [show (0 : Int32).toNatClampNeg = 0 from rfl]
  refine ev_aload_n dModel_judge_66 rfl ?_
  refine ev_getR hok fk_Model_786 (woModel hw) (fun _ _ _ => rfl) (wrModel_138 hw) dModel_judge_67 ?_
  refine ev_iconst (1) dModel_judge_70 (by decide) ?_
  refine ev_lald hok (waModel_138 hw) (by unfold vp_in; decide) dModel_judge_71 ?_
  rw [show (1 : Int32).toNatClampNeg = 1 from rfl]
  refine ev_lcmp dModel_judge_72 ?_
  refine ev_if_eq 98 dModel_judge_73 (by decide) (fun c1 => ?_) (fun c1 => ?_)
  · have H := H.1 c1
    refine ev_aload_n dModel_judge_98 rfl ?_
    refine ev_getR hok fk_Model_792 (woModel hw) (fun _ _ _ => rfl) (wrModel_140 hw) dModel_judge_99 ?_
    refine ev_iconst (0) dModel_judge_102 (by decide) ?_
    refine ev_lald hok (waModel_140 hw) (by unfold vp_in; decide) dModel_judge_103 ?_
    rw [show (0 : Int32).toNatClampNeg = 0 from rfl]
    refine ev_lconst 0 dModel_judge_104 (by decide) ?_
    refine ev_lcmp dModel_judge_105 ?_
    refine ev_if_ne 113 dModel_judge_106 (by decide) (fun c2 => ?_) (fun c2 => ?_)
    · have H := H.1 c2
      refine ev_iconst (0) dModel_judge_113 (by decide) ?_
      exact ev_sub [(0, .ref o), (1, .int x1), (2, .int x2), (3, .int x3), (4, .int x4)] rfl (sModel_judge_114 o n sh Rf I L post x1 x2 x3 x4 0 hok hw H)
    · have H := H.2 c2
      refine ev_iconst (1) dModel_judge_109 (by decide) ?_
      refine ev_goto 114 dModel_judge_110 (by decide) ?_
      exact ev_sub [(0, .ref o), (1, .int x1), (2, .int x2), (3, .int x3), (4, .int x4)] rfl (sModel_judge_114 o n sh Rf I L post x1 x2 x3 x4 1 hok hw H)
  · have H := H.2 c1
    refine ev_aload_n dModel_judge_76 rfl ?_
    refine ev_getR hok fk_Model_786 (woModel hw) (fun _ _ _ => rfl) (wrModel_138 hw) dModel_judge_77 ?_
    refine ev_iconst (0) dModel_judge_80 (by decide) ?_
    refine ev_lald hok (waModel_138 hw) (by unfold vp_in; decide) dModel_judge_81 ?_
    rw [show (0 : Int32).toNatClampNeg = 0 from rfl]
    refine ev_aload_n dModel_judge_82 rfl ?_
    refine ev_getR hok fk_Model_786 (woModel hw) (fun _ _ _ => rfl) (wrModel_138 hw) dModel_judge_83 ?_
    refine ev_iconst (1) dModel_judge_86 (by decide) ?_
    refine ev_lald hok (waModel_138 hw) (by unfold vp_in; decide) dModel_judge_87 ?_
    rw [show (1 : Int32).toNatClampNeg = 1 from rfl]
    refine ev_lcmp dModel_judge_88 ?_
    refine ev_if_ge 96 dModel_judge_89 (by decide) (fun c3 => ?_) (fun c3 => ?_)
    · have H := H.1 c3
      refine ev_iconst (1) dModel_judge_96 (by decide) ?_
      exact ev_iret rfl dModel_judge_97 H
    · have H := H.2 c3
      refine ev_iconst (0) dModel_judge_92 (by decide) ?_
      refine ev_goto 97 dModel_judge_93 (by decide) ?_
      exact ev_iret rfl dModel_judge_97 H
def fModel_judge_0 (D : va_G) (cA : FieldType → ClassId) (b : Nat) (E : State → Prop) (o : Nat) (n : Nat) (sh : Nat → qC) (Rf : Nat → Nat → Option Nat) (I : Nat → Nat → Int32) (L : Nat → Nat → Int64) (post : Option Value → qS → Prop) (x1 : Int32) (x2 : Int32) (x3 : Int32) (x4 : Int32) : Prop :=
  Ev (qGG D cA b E) mModel_isIn 0 (0, 0) 0 (lv_args 0 [.int x1, .int 0, .int 3]) [] (n, sh, Rf, I, L) (fun v τ => ∃ (r2 : Int32) (I3 : Nat → Nat → Int32) (L4 : Nat → Nat → Int64), v = some (.int r2) ∧ τ = (n, sh, Rf, I3, L4) ∧ ((r2 = 0 → post (some (.int ((-1)))) (n, sh, Rf, I3, L4)) ∧ (¬ r2 = 0 → Ev (qGG D cA b E) mModel_isIn 0 (0, 0) 0 (lv_args 0 [.int x2, .int 0, .int 3]) [] (n, sh, Rf, I3, L4) (fun v τ => ∃ (r7 : Int32) (I8 : Nat → Nat → Int32) (L9 : Nat → Nat → Int64), v = some (.int r7) ∧ τ = (n, sh, Rf, I8, L9) ∧ ((r7 = 0 → post (some (.int ((-1)))) (n, sh, Rf, I8, L9)) ∧ (¬ r7 = 0 → Ev (qGG D cA b E) mModel_isIn 0 (0, 0) 0 (lv_args 0 [.int x3, .int 0, .int 240]) [] (n, sh, Rf, I8, L9) (fun v τ => ∃ (r12 : Int32) (I13 : Nat → Nat → Int32) (L14 : Nat → Nat → Int64), v = some (.int r12) ∧ τ = (n, sh, Rf, I13, L14) ∧ ((¬ r12 = 0 → Ev (qGG D cA b E) mModel_tryOut 10 (0, 0) 0 (lv_args 0 [.ref o, .int 0, .int x1, .int x3, .int x4]) [] (n, sh, Rf, I13, L14) (fun v τ => ∃ (I18 : Nat → Nat → Int32) (L19 : Nat → Nat → Int64), v = none ∧ τ = (n, sh, Rf, I18, L19) ∧ Ev (qGG D cA b E) mModel_tryOut 10 (0, 0) 0 (lv_args 0 [.ref o, .int 1, .int x2, .int x3, .int x4]) [] (n, sh, Rf, I18, L19) (fun v τ => ∃ (I22 : Nat → Nat → Int32) (L23 : Nat → Nat → Int64), v = none ∧ τ = (n, sh, Rf, I22, L23) ∧ (((I22 o 135) = 0 → fModel_judge_60 D cA b E o n sh Rf I22 L23 post x1 x2 x3 x4) ∧ (¬ (I22 o 135) = 0 → Ev (qGG D cA b E) mModel_restore 1 (0, 0) 0 (lv_args 0 [.ref o]) [] (n, sh, Rf, I22, L23) (fun v τ => ∃ (I27 : Nat → Nat → Int32) (L28 : Nat → Nat → Int64), v = none ∧ τ = (n, sh, Rf, I27, L28) ∧ fModel_judge_60 D cA b E o n sh Rf I27 L28 post x1 x2 x3 x4)))))) ∧ (r12 = 0 → post (some (.int ((-1)))) (n, sh, Rf, I13, L14))))))))))
set_option maxHeartbeats 4000000 in
set_option maxRecDepth 20000 in
theorem sModel_judge_0 {D : va_G} {cA : FieldType → ClassId} {b : Nat} {E : State → Prop} (o : Nat) (n : Nat) (sh : Nat → qC) (Rf : Nat → Nat → Option Nat) (I : Nat → Nat → Int32) (L : Nat → Nat → Int64) (post : Option Value → qS → Prop) (x1 : Int32) (x2 : Int32) (x3 : Int32) (x4 : Int32) (hok : q_ok (qGG D cA b E)) (hw : WfModel (qGG D cA b E) n sh Rf o) (H : fModel_judge_0 D cA b E o n sh Rf I L post x1 x2 x3 x4) : Ev (qGG D cA b E) mModel_judge 11 (0, 0) 0 [(0, .ref o), (1, .int x1), (2, .int x2), (3, .int x3), (4, .int x4)] [] (n, sh, Rf, I, L) post := by
  unfold fModel_judge_0 at H
  refine ev_iload_n dModel_judge_0 rfl ?_
  refine ev_iconst (0) dModel_judge_1 (by decide) ?_
  refine ev_iconst (3) dModel_judge_2 (by decide) ?_
  refine ev_callS [.int x1, .int 0, .int 3] [] (B' := (0, 0)) (B'' := (0, 0)) hok mmModel_isIn mk_Model_393 rfl (Nat.le_of_ble_eq_true rfl) rfl (Nat.le_of_ble_eq_true rfl) dModel_judge_3 rfl (by decide) H (fun v τ p1 => ?_)
  obtain ⟨r2, I3, L4, rfl, rfl, H⟩ := p1
  refine ev_if_eq 29 dModel_judge_6 (by decide) (fun c5 => ?_) (fun c5 => ?_)
  · have H := H.1 c5
    refine ev_iconst (-1) dModel_judge_29 (by decide) ?_
    exact ev_iret rfl dModel_judge_30 H
  · have H := H.2 c5
    refine ev_iload_n dModel_judge_9 rfl ?_
    refine ev_iconst (0) dModel_judge_10 (by decide) ?_
    refine ev_iconst (3) dModel_judge_11 (by decide) ?_
    refine ev_callS [.int x2, .int 0, .int 3] [] (B' := (0, 0)) (B'' := (0, 0)) hok mmModel_isIn mk_Model_393 rfl (Nat.le_of_ble_eq_true rfl) rfl (Nat.le_of_ble_eq_true rfl) dModel_judge_12 rfl (by decide) H (fun v τ p6 => ?_)
    obtain ⟨r7, I8, L9, rfl, rfl, H⟩ := p6
    refine ev_if_eq 29 dModel_judge_15 (by decide) (fun c10 => ?_) (fun c10 => ?_)
    · have H := H.1 c10
      refine ev_iconst (-1) dModel_judge_29 (by decide) ?_
      exact ev_iret rfl dModel_judge_30 H
    · have H := H.2 c10
      refine ev_iload_n dModel_judge_18 rfl ?_
      refine ev_iconst (0) dModel_judge_19 (by decide) ?_
      refine ev_sipush (240) dModel_judge_20 (by decide) ?_
      refine ev_callS [.int x3, .int 0, .int 240] [] (B' := (0, 0)) (B'' := (0, 0)) hok mmModel_isIn mk_Model_393 rfl (Nat.le_of_ble_eq_true rfl) rfl (Nat.le_of_ble_eq_true rfl) dModel_judge_23 rfl (by decide) H (fun v τ p11 => ?_)
      obtain ⟨r12, I13, L14, rfl, rfl, H⟩ := p11
      refine ev_if_ne 31 dModel_judge_26 (by decide) (fun c15 => ?_) (fun c15 => ?_)
      · have H := H.1 c15
        refine ev_aload_n dModel_judge_31 rfl ?_
        refine ev_iconst (0) dModel_judge_32 (by decide) ?_
        refine ev_iload_n dModel_judge_33 rfl ?_
        refine ev_iload_n dModel_judge_34 rfl ?_
        refine ev_iload dModel_judge_35 rfl ?_
        refine ev_callV [.int 0, .int x1, .int x3, .int x4] [] (B' := (0, 0)) (B'' := (0, 0)) hok mmModel_tryOut mk_Model_798 (ci := 12) rfl rfl (woModel hw) rfl (Nat.le_of_ble_eq_true rfl) rfl (Nat.le_of_ble_eq_true rfl) dModel_judge_37 rfl (by decide) H (fun v τ p16 => ?_)
        obtain ⟨I18, L19, rfl, rfl, H⟩ := p16
        refine ev_aload_n dModel_judge_40 rfl ?_
        refine ev_iconst (1) dModel_judge_41 (by decide) ?_
        refine ev_iload_n dModel_judge_42 rfl ?_
        refine ev_iload_n dModel_judge_43 rfl ?_
        refine ev_iload dModel_judge_44 rfl ?_
        refine ev_callV [.int 1, .int x2, .int x3, .int x4] [] (B' := (0, 0)) (B'' := (0, 0)) hok mmModel_tryOut mk_Model_798 (ci := 12) rfl rfl (woModel hw) rfl (Nat.le_of_ble_eq_true rfl) rfl (Nat.le_of_ble_eq_true rfl) dModel_judge_46 rfl (by decide) H (fun v τ p20 => ?_)
        obtain ⟨I22, L23, rfl, rfl, H⟩ := p20
        refine ev_aload_n dModel_judge_49 rfl ?_
        refine ev_getI hok fk_Model_172 (woModel hw) (fun _ _ _ => rfl) dModel_judge_50 ?_
        refine ev_if_eq 60 dModel_judge_53 (by decide) (fun c24 => ?_) (fun c24 => ?_)
        · have H := H.1 c24
          exact ev_sub [(0, .ref o), (1, .int x1), (2, .int x2), (3, .int x3), (4, .int x4)] rfl (sModel_judge_60 o n sh Rf I22 L23 post x1 x2 x3 x4 hok hw H)
        · have H := H.2 c24
          refine ev_aload_n dModel_judge_56 rfl ?_
          refine ev_callV [] [] (B' := (0, 0)) (B'' := (0, 0)) hok mmModel_restore mk_Model_802 (ci := 12) rfl rfl (woModel hw) rfl (Nat.le_of_ble_eq_true rfl) rfl (Nat.le_of_ble_eq_true rfl) dModel_judge_57 rfl (by decide) H (fun v τ p25 => ?_)
          obtain ⟨I27, L28, rfl, rfl, H⟩ := p25
          exact ev_sub [(0, .ref o), (1, .int x1), (2, .int x2), (3, .int x3), (4, .int x4)] rfl (sModel_judge_60 o n sh Rf I27 L28 post x1 x2 x3 x4 hok hw H)
      · have H := H.2 c15
        refine ev_iconst (-1) dModel_judge_29 (by decide) ?_
        exact ev_iret rfl dModel_judge_30 H
