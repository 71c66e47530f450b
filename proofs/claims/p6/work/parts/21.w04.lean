/-! Walks of the reference: by program. -/
def fModel_worthOf_170 (D : va_G) (cA : FieldType → ClassId) (b : Nat) (E : State → Prop) (o : Nat) (n : Nat) (sh : Nat → qC) (Rf : Nat → Nat → Option Nat) (I : Nat → Nat → Int32) (L : Nat → Nat → Int64) (post : Option Value → qS → Prop) (x1 : Int32) (x2 : Int64) (x4 : Int64) (x6 : Int32) (x7 : Int32) : Prop :=
  Ev (qGG D cA b E) mModel_worthOf 2 (0, 0) 26 [(0, .ref o), (1, .int x1), (2, .long x2), (4, .long x4), (6, .int ((x6 + Int32.ofInt 1)))] [] (n, sh, Rf, I, L) post
set_option maxHeartbeats 4000000 in
set_option maxRecDepth 20000 in
theorem sModel_worthOf_170 {D : va_G} {cA : FieldType → ClassId} {b : Nat} {E : State → Prop} (o : Nat) (n : Nat) (sh : Nat → qC) (Rf : Nat → Nat → Option Nat) (I : Nat → Nat → Int32) (L : Nat → Nat → Int64) (post : Option Value → qS → Prop) (x1 : Int32) (x2 : Int64) (x4 : Int64) (x6 : Int32) (x7 : Int32) (hok : q_ok (qGG D cA b E)) (hw : WfModel (qGG D cA b E) n sh Rf o) (H : fModel_worthOf_170 D cA b E o n sh Rf I L post x1 x2 x4 x6 x7) : Ev (qGG D cA b E) mModel_worthOf 2 (0, 0) 170 [(0, .ref o), (1, .int x1), (2, .long x2), (4, .long x4), (6, .int x6), (7, .int x7)] [] (n, sh, Rf, I, L) post := by
  unfold fModel_worthOf_170 at H
  refine ev_iinc dModel_worthOf_170 rfl (by decide) ?_
  refine ev_goto 26 dModel_worthOf_173 (by decide) ?_
  exact ev_sub [(0, .ref o), (1, .int x1), (2, .long x2), (4, .long x4), (6, .int ((x6 + Int32.ofInt 1)))] rfl H
def fModel_worthOf_161 (D : va_G) (cA : FieldType → ClassId) (b : Nat) (E : State → Prop) (o : Nat) (n : Nat) (sh : Nat → qC) (Rf : Nat → Nat → Option Nat) (I : Nat → Nat → Int32) (L : Nat → Nat → Int64) (post : Option Value → qS → Prop) (x1 : Int32) (x2 : Int64) (x4 : Int64) (x6 : Int32) (x7 : Int32) (x8 : Int64) : Prop :=
  ∀ I1 : Nat → Nat → Int32, q_u I o 120 x6 = I1 → fModel_worthOf_170 D cA b E o n sh Rf I1 L post x1 x8 x4 x6 x7
set_option maxHeartbeats 4000000 in
set_option maxRecDepth 20000 in
theorem sModel_worthOf_161 {D : va_G} {cA : FieldType → ClassId} {b : Nat} {E : State → Prop} (o : Nat) (n : Nat) (sh : Nat → qC) (Rf : Nat → Nat → Option Nat) (I : Nat → Nat → Int32) (L : Nat → Nat → Int64) (post : Option Value → qS → Prop) (x1 : Int32) (x2 : Int64) (x4 : Int64) (x6 : Int32) (x7 : Int32) (x8 : Int64) (hok : q_ok (qGG D cA b E)) (hw : WfModel (qGG D cA b E) n sh Rf o) (H : fModel_worthOf_161 D cA b E o n sh Rf I L post x1 x2 x4 x6 x7 x8) : Ev (qGG D cA b E) mModel_worthOf 2 (0, 0) 161 [(0, .ref o), (1, .int x1), (2, .long x2), (4, .long x4), (6, .int x6), (7, .int x7), (8, .long x8)] [] (n, sh, Rf, I, L) post := by
  unfold fModel_worthOf_161 at H
  refine ev_lload dModel_worthOf_161 rfl ?_
  refine ev_lstore_n dModel_worthOf_163 (by decide) ?_
  refine ev_aload_n dModel_worthOf_164 rfl ?_
  refine ev_iload dModel_worthOf_165 rfl ?_
  refine ev_putI hok fk_Model_480 (woModel hw) (fun _ _ _ => rfl) rfl rfl dModel_worthOf_167 ?_
  generalize eI1 : q_u I o 120 x6 = I1
  have H := H I1 eI1
  exact ev_sub [(0, .ref o), (1, .int x1), (2, .long x8), (4, .long x4), (6, .int x6), (7, .int x7)] rfl (sModel_worthOf_170 o n sh Rf I1 L post x1 x8 x4 x6 x7 hok hw H)
def fModel_worthOf_26 (D : va_G) (cA : FieldType → ClassId) (b : Nat) (E : State → Prop) (o : Nat) (n : Nat) (sh : Nat → qC) (Rf : Nat → Nat → Option Nat) (I : Nat → Nat → Int32) (L : Nat → Nat → Int64) (post : Option Value → qS → Prop) (x1 : Int32) (x2 : Int64) (x4 : Int64) (x6 : Int32) : Prop :=
  Ev (qGG D cA b E) mModel_towns 0 (0, 0) 0 (lv_args 0 [.ref o]) [] (n, sh, Rf, I, L) (fun v τ => ∃ (r2 : Int32) (I3 : Nat → Nat → Int32) (L4 : Nat → Nat → Int64), v = some (.int r2) ∧ τ = (n, sh, Rf, I3, L4) ∧ ((r2 ≤ x6 → post (some (.long x2)) (n, sh, Rf, I3, L4)) ∧ (¬ r2 ≤ x6 → Ev (qGG D cA b E) mModel_panAt 0 (0, 0) 0 (lv_args 0 [.ref o, .int x1]) [] (n, sh, Rf, I3, L4) (fun v τ => ∃ (r7 : Int32) (I8 : Nat → Nat → Int32) (L9 : Nat → Nat → Int64), v = some (.int r7) ∧ τ = (n, sh, Rf, I8, L9) ∧ Ev (qGG D cA b E) mModel_townAt 0 (0, 0) 0 (lv_args 0 [.ref o, .int x6]) [] (n, sh, Rf, I8, L9) (fun v τ => ∃ (r11 : Int32) (I12 : Nat → Nat → Int32) (L13 : Nat → Nat → Int64), v = some (.int r11) ∧ τ = (n, sh, Rf, I12, L13) ∧ vp_in ((16 * r7) + r11) 256 ∧ vp_in ((3 * (I12 o 34)) + x1) 6 ∧ vp_in ((5 * (I12 o 34)) + x6) 10 ∧ (((((I12 (o + 18) (((3 * (I12 o 34)) + x1) : Int32).toNatClampNeg) >>> ((I12 (o + 20) (((5 * (I12 o 34)) + x6) : Int32).toNatClampNeg) &&& 31)) &&& 1) = 0 → fModel_worthOf_170 D cA b E o n sh Rf I12 L13 post x1 x2 x4 x6 (I12 (o + 25) (((16 * r7) + r11) : Int32).toNatClampNeg)) ∧ (¬ (((I12 (o + 18) (((3 * (I12 o 34)) + x1) : Int32).toNatClampNeg) >>> ((I12 (o + 20) (((5 * (I12 o 34)) + x6) : Int32).toNatClampNeg) &&& 31)) &&& 1) = 0 → (((I12 (o + 25) (((16 * r7) + r11) : Int32).toNatClampNeg) < 1000000 → Ev (qGG D cA b E) mModel_priceOf 0 (0, 0) 0 (lv_args 0 [.ref o, .int x6]) [] (n, sh, Rf, I12, L13) (fun v τ => ∃ (r20 : Int32) (I21 : Nat → Nat → Int32) (L22 : Nat → Nat → Int64), v = some (.int r20) ∧ τ = (n, sh, Rf, I21, L22) ∧ Ev (qGG D cA b E) mModel_monthsOf 0 (0, 0) 0 (lv_args 0 [.int ((I12 (o + 25) (((16 * r7) + r11) : Int32).toNatClampNeg))]) [] (n, sh, Rf, I21, L22) (fun v τ => ∃ (r24 : Int32) (I25 : Nat → Nat → Int32) (L26 : Nat → Nat → Int64), v = some (.int r24) ∧ τ = (n, sh, Rf, I25, L26) ∧ (((I25 o 120) < 0 → fModel_worthOf_161 D cA b E o n sh Rf I25 L26 post x1 x2 x4 x6 (I12 (o + 25) (((16 * r7) + r11) : Int32).toNatClampNeg) ((((r20 : Int32).toInt64 - ((I21 o 109) : Int32).toInt64) - ((((I12 (o + 25) (((16 * r7) + r11) : Int32).toNatClampNeg) * (I21 o 69)) / 10) : Int32).toInt64) - (((I21 o 71) : Int32).toInt64 * ((r24 : Int32).toInt64 + x4)))) ∧ (¬ (I25 o 120) < 0 → ((0 < (lg_cmp ((((r20 : Int32).toInt64 - ((I21 o 109) : Int32).toInt64) - ((((I12 (o + 25) (((16 * r7) + r11) : Int32).toNatClampNeg) * (I21 o 69)) / 10) : Int32).toInt64) - (((I21 o 71) : Int32).toInt64 * ((r24 : Int32).toInt64 + x4))) x2) → fModel_worthOf_161 D cA b E o n sh Rf I25 L26 post x1 x2 x4 x6 (I12 (o + 25) (((16 * r7) + r11) : Int32).toNatClampNeg) ((((r20 : Int32).toInt64 - ((I21 o 109) : Int32).toInt64) - ((((I12 (o + 25) (((16 * r7) + r11) : Int32).toNatClampNeg) * (I21 o 69)) / 10) : Int32).toInt64) - (((I21 o 71) : Int32).toInt64 * ((r24 : Int32).toInt64 + x4)))) ∧ (¬ 0 < (lg_cmp ((((r20 : Int32).toInt64 - ((I21 o 109) : Int32).toInt64) - ((((I12 (o + 25) (((16 * r7) + r11) : Int32).toNatClampNeg) * (I21 o 69)) / 10) : Int32).toInt64) - (((I21 o 71) : Int32).toInt64 * ((r24 : Int32).toInt64 + x4))) x2) → fModel_worthOf_170 D cA b E o n sh Rf I25 L26 post x1 x2 x4 x6 (I12 (o + 25) (((16 * r7) + r11) : Int32).toNatClampNeg)))))))) ∧ (¬ (I12 (o + 25) (((16 * r7) + r11) : Int32).toNatClampNeg) < 1000000 → fModel_worthOf_170 D cA b E o n sh Rf I12 L13 post x1 x2 x4 x6 (I12 (o + 25) (((16 * r7) + r11) : Int32).toNatClampNeg))))))))))
set_option maxHeartbeats 4000000 in
set_option maxRecDepth 20000 in
theorem sModel_worthOf_26 {D : va_G} {cA : FieldType → ClassId} {b : Nat} {E : State → Prop} (o : Nat) (n : Nat) (sh : Nat → qC) (Rf : Nat → Nat → Option Nat) (I : Nat → Nat → Int32) (L : Nat → Nat → Int64) (post : Option Value → qS → Prop) (x1 : Int32) (x2 : Int64) (x4 : Int64) (x6 : Int32) (hok : q_ok (qGG D cA b E)) (hw : WfModel (qGG D cA b E) n sh Rf o) (H : fModel_worthOf_26 D cA b E o n sh Rf I L post x1 x2 x4 x6) : Ev (qGG D cA b E) mModel_worthOf 2 (0, 0) 26 [(0, .ref o), (1, .int x1), (2, .long x2), (4, .long x4), (6, .int x6)] [] (n, sh, Rf, I, L) post := by
  unfold fModel_worthOf_26 at H
  refine ev_iload dModel_worthOf_26 rfl ?_
  refine ev_aload_n dModel_worthOf_28 rfl ?_
  refine ev_callV [] [.int x6] (B' := (0, 0)) (B'' := (0, 0)) hok mmModel_towns mk_Model_488 (ci := 12) rfl rfl (woModel hw) rfl (Nat.le_of_ble_eq_true rfl) rfl (Nat.le_of_ble_eq_true rfl) dModel_worthOf_29 rfl (by decide) H (fun v τ p1 => ?_)
  obtain ⟨r2, I3, L4, rfl, rfl, H⟩ := p1
  refine ev_icmp_ge 176 dModel_worthOf_32 (by decide) (fun c5 => ?_) (fun c5 => ?_)
  · have H := H.1 c5
    refine ev_lload_n dModel_worthOf_176 rfl ?_
    exact ev_lret rfl dModel_worthOf_177 H
  · have H := H.2 c5
    refine ev_aload_n dModel_worthOf_35 rfl ?_
    refine ev_getR hok fk_Model_269 (woModel hw) (fun _ _ _ => rfl) (wrModel_36 hw) dModel_worthOf_36 ?_
    refine ev_bipush (16) dModel_worthOf_39 (by decide) ?_
    refine ev_aload_n dModel_worthOf_41 rfl ?_
    refine ev_iload_n dModel_worthOf_42 rfl ?_
    refine ev_callV [.int x1] [.int 16, .ref ((o + 25))] (B' := (0, 0)) (B'' := (0, 0)) hok mmModel_panAt mk_Model_491 (ci := 12) rfl rfl (woModel hw) rfl (Nat.le_of_ble_eq_true rfl) rfl (Nat.le_of_ble_eq_true rfl) dModel_worthOf_43 rfl (by decide) H (fun v τ p6 => ?_)
    obtain ⟨r7, I8, L9, rfl, rfl, H⟩ := p6
    refine ev_imul dModel_worthOf_46 ?_
    refine ev_aload_n dModel_worthOf_47 rfl ?_
    refine ev_iload dModel_worthOf_48 rfl ?_
    refine ev_callV [.int x6] [.int ((16 * r7)), .ref ((o + 25))] (B' := (0, 0)) (B'' := (0, 0)) hok mmModel_townAt mk_Model_494 (ci := 12) rfl rfl (woModel hw) rfl (Nat.le_of_ble_eq_true rfl) rfl (Nat.le_of_ble_eq_true rfl) dModel_worthOf_50 rfl (by decide) H (fun v τ p10 => ?_)
    obtain ⟨r11, I12, L13, rfl, rfl, H⟩ := p10
    refine ev_iadd dModel_worthOf_53 ?_
    obtain ⟨h14, H⟩ := H
    refine ev_iald hok (waModel_36 hw) h14 dModel_worthOf_54 ?_
    refine ev_istore dModel_worthOf_55 (by decide) ?_
    refine ev_aload_n dModel_worthOf_57 rfl ?_
    refine ev_getR hok fk_Model_248 (woModel hw) (fun _ _ _ => rfl) (wrModel_27 hw) dModel_worthOf_58 ?_
    refine ev_iconst (3) dModel_worthOf_61 (by decide) ?_
    refine ev_aload_n dModel_worthOf_62 rfl ?_
    refine ev_getI hok fk_Model_147 (woModel hw) (fun _ _ _ => rfl) dModel_worthOf_63 ?_
    refine ev_imul dModel_worthOf_66 ?_
    refine ev_iload_n dModel_worthOf_67 rfl ?_
    refine ev_iadd dModel_worthOf_68 ?_
    obtain ⟨h15, H⟩ := H
    refine ev_iald hok (waModel_27 hw) h15 dModel_worthOf_69 ?_
    refine ev_aload_n dModel_worthOf_70 rfl ?_
    refine ev_getR hok fk_Model_254 (woModel hw) (fun _ _ _ => rfl) (wrModel_29 hw) dModel_worthOf_71 ?_
    refine ev_iconst (5) dModel_worthOf_74 (by decide) ?_
    refine ev_aload_n dModel_worthOf_75 rfl ?_
    refine ev_getI hok fk_Model_147 (woModel hw) (fun _ _ _ => rfl) dModel_worthOf_76 ?_
    refine ev_imul dModel_worthOf_79 ?_
    refine ev_iload dModel_worthOf_80 rfl ?_
    refine ev_iadd dModel_worthOf_82 ?_
    obtain ⟨h16, H⟩ := H
    refine ev_iald hok (waModel_29 hw) h16 dModel_worthOf_83 ?_
    refine ev_ishr dModel_worthOf_84 ?_
    refine ev_iconst (1) dModel_worthOf_85 (by decide) ?_
    refine ev_iand dModel_worthOf_86 ?_
    refine ev_if_eq 170 dModel_worthOf_87 (by decide) (fun c17 => ?_) (fun c17 => ?_)
    · have H := H.1 c17
      exact ev_sub [(0, .ref o), (1, .int x1), (2, .long x2), (4, .long x4), (6, .int x6), (7, .int ((I12 (o + 25) (((16 * r7) + r11) : Int32).toNatClampNeg)))] rfl (sModel_worthOf_170 o n sh Rf I12 L13 post x1 x2 x4 x6 (I12 (o + 25) (((16 * r7) + r11) : Int32).toNatClampNeg) hok hw H)
    · have H := H.2 c17
      refine ev_iload dModel_worthOf_90 rfl ?_
      refine ev_ldcw (1000000) dModel_worthOf_92 (q_t7 91 (by decide +kernel) rfl) ?_
      refine ev_icmp_lt 101 dModel_worthOf_95 (by decide) (fun c18 => ?_) (fun c18 => ?_)
      · have H := H.1 c18
        refine ev_aload_n dModel_worthOf_101 rfl ?_
        refine ev_iload dModel_worthOf_102 rfl ?_
        refine ev_callV [.int x6] [] (B' := (0, 0)) (B'' := (0, 0)) hok mmModel_priceOf mk_Model_497 (ci := 12) rfl rfl (woModel hw) rfl (Nat.le_of_ble_eq_true rfl) rfl (Nat.le_of_ble_eq_true rfl) dModel_worthOf_104 rfl (by decide) H (fun v τ p19 => ?_)
        obtain ⟨r20, I21, L22, rfl, rfl, H⟩ := p19
        refine ev_i2l dModel_worthOf_107 ?_
        refine ev_aload_n dModel_worthOf_108 rfl ?_
        refine ev_getI hok fk_Model_500 (woModel hw) (fun _ _ _ => rfl) dModel_worthOf_109 ?_
        refine ev_i2l dModel_worthOf_112 ?_
        refine ev_lsub dModel_worthOf_113 ?_
        refine ev_iload dModel_worthOf_114 rfl ?_
        refine ev_aload_n dModel_worthOf_116 rfl ?_
        refine ev_getI hok fk_Model_397 (woModel hw) (fun _ _ _ => rfl) dModel_worthOf_117 ?_
        refine ev_imul dModel_worthOf_120 ?_
        refine ev_bipush (10) dModel_worthOf_121 (by decide) ?_
        refine ev_idiv dModel_worthOf_123 (by decide) ?_
        refine ev_i2l dModel_worthOf_124 ?_
        refine ev_lsub dModel_worthOf_125 ?_
        refine ev_aload_n dModel_worthOf_126 rfl ?_
        refine ev_getI hok fk_Model_403 (woModel hw) (fun _ _ _ => rfl) dModel_worthOf_127 ?_
        refine ev_i2l dModel_worthOf_130 ?_
        refine ev_iload dModel_worthOf_131 rfl ?_
        refine ev_callS [.int ((I12 (o + 25) (((16 * r7) + r11) : Int32).toNatClampNeg))] [.long (((I21 o 71) : Int32).toInt64), .long ((((r20 : Int32).toInt64 - ((I21 o 109) : Int32).toInt64) - ((((I12 (o + 25) (((16 * r7) + r11) : Int32).toNatClampNeg) * (I21 o 69)) / 10) : Int32).toInt64))] (B' := (0, 0)) (B'' := (0, 0)) hok mmModel_monthsOf mk_Model_503 rfl (Nat.le_of_ble_eq_true rfl) rfl (Nat.le_of_ble_eq_true rfl) dModel_worthOf_133 rfl (by decide) H (fun v τ p23 => ?_)
        obtain ⟨r24, I25, L26, rfl, rfl, H⟩ := p23
        refine ev_i2l dModel_worthOf_136 ?_
        refine ev_lload dModel_worthOf_137 rfl ?_
        refine ev_ladd dModel_worthOf_139 ?_
        refine ev_lmul dModel_worthOf_140 ?_
        refine ev_lsub dModel_worthOf_141 ?_
        refine ev_lstore dModel_worthOf_142 (by decide) ?_
        refine ev_aload_n dModel_worthOf_144 rfl ?_
        refine ev_getI hok fk_Model_480 (woModel hw) (fun _ _ _ => rfl) dModel_worthOf_145 ?_
        refine ev_if_lt 161 dModel_worthOf_148 (by decide) (fun c27 => ?_) (fun c27 => ?_)
        · have H := H.1 c27
          exact ev_sub [(0, .ref o), (1, .int x1), (2, .long x2), (4, .long x4), (6, .int x6), (7, .int ((I12 (o + 25) (((16 * r7) + r11) : Int32).toNatClampNeg))), (8, .long (((((r20 : Int32).toInt64 - ((I21 o 109) : Int32).toInt64) - ((((I12 (o + 25) (((16 * r7) + r11) : Int32).toNatClampNeg) * (I21 o 69)) / 10) : Int32).toInt64) - (((I21 o 71) : Int32).toInt64 * ((r24 : Int32).toInt64 + x4)))))] rfl (sModel_worthOf_161 o n sh Rf I25 L26 post x1 x2 x4 x6 (I12 (o + 25) (((16 * r7) + r11) : Int32).toNatClampNeg) ((((r20 : Int32).toInt64 - ((I21 o 109) : Int32).toInt64) - ((((I12 (o + 25) (((16 * r7) + r11) : Int32).toNatClampNeg) * (I21 o 69)) / 10) : Int32).toInt64) - (((I21 o 71) : Int32).toInt64 * ((r24 : Int32).toInt64 + x4))) hok hw H)
        · have H := H.2 c27
          refine ev_lload dModel_worthOf_151 rfl ?_
          refine ev_lload_n dModel_worthOf_153 rfl ?_
          refine ev_lcmp dModel_worthOf_154 ?_
          refine ev_if_gt 161 dModel_worthOf_155 (by decide) (fun c28 => ?_) (fun c28 => ?_)
          · have H := H.1 c28
            exact ev_sub [(0, .ref o), (1, .int x1), (2, .long x2), (4, .long x4), (6, .int x6), (7, .int ((I12 (o + 25) (((16 * r7) + r11) : Int32).toNatClampNeg))), (8, .long (((((r20 : Int32).toInt64 - ((I21 o 109) : Int32).toInt64) - ((((I12 (o + 25) (((16 * r7) + r11) : Int32).toNatClampNeg) * (I21 o 69)) / 10) : Int32).toInt64) - (((I21 o 71) : Int32).toInt64 * ((r24 : Int32).toInt64 + x4)))))] rfl (sModel_worthOf_161 o n sh Rf I25 L26 post x1 x2 x4 x6 (I12 (o + 25) (((16 * r7) + r11) : Int32).toNatClampNeg) ((((r20 : Int32).toInt64 - ((I21 o 109) : Int32).toInt64) - ((((I12 (o + 25) (((16 * r7) + r11) : Int32).toNatClampNeg) * (I21 o 69)) / 10) : Int32).toInt64) - (((I21 o 71) : Int32).toInt64 * ((r24 : Int32).toInt64 + x4))) hok hw H)
          · have H := H.2 c28
            refine ev_goto 170 dModel_worthOf_158 (by decide) ?_
            exact ev_sub [(0, .ref o), (1, .int x1), (2, .long x2), (4, .long x4), (6, .int x6), (7, .int ((I12 (o + 25) (((16 * r7) + r11) : Int32).toNatClampNeg)))] rfl (sModel_worthOf_170 o n sh Rf I25 L26 post x1 x2 x4 x6 (I12 (o + 25) (((16 * r7) + r11) : Int32).toNatClampNeg) hok hw H)
      · have H := H.2 c18
        refine ev_goto 170 dModel_worthOf_98 (by decide) ?_
        exact ev_sub [(0, .ref o), (1, .int x1), (2, .long x2), (4, .long x4), (6, .int x6), (7, .int ((I12 (o + 25) (((16 * r7) + r11) : Int32).toNatClampNeg)))] rfl (sModel_worthOf_170 o n sh Rf I12 L13 post x1 x2 x4 x6 (I12 (o + 25) (((16 * r7) + r11) : Int32).toNatClampNeg) hok hw H)
def fModel_worthOf_0 (D : va_G) (cA : FieldType → ClassId) (b : Nat) (E : State → Prop) (o : Nat) (n : Nat) (sh : Nat → qC) (Rf : Nat → Nat → Option Nat) (I : Nat → Nat → Int32) (L : Nat → Nat → Int64) (post : Option Value → qS → Prop) (x1 : Int32) : Prop :=
  ∀ I1 : Nat → Nat → Int32, q_u I o 120 (-1) = I1 → Ev (qGG D cA b E) mModel_waitingAt 1 (0, 0) 0 (lv_args 0 [.ref o, .int x1]) [] (n, sh, Rf, I1, L) (fun v τ => ∃ (r3 : Int32) (I4 : Nat → Nat → Int32) (L5 : Nat → Nat → Int64), v = some (.int r3) ∧ τ = (n, sh, Rf, I4, L5) ∧ Ev (qGG D cA b E) mModel_aTwelfth 1 (0, 0) 0 (lv_args 0 [.ref o, .int x1]) [] (n, sh, Rf, I4, L5) (fun v τ => ∃ (r7 : Int32) (I8 : Nat → Nat → Int32) (L9 : Nat → Nat → Int64), v = some (.int r7) ∧ τ = (n, sh, Rf, I8, L9) ∧ (¬ (r7 : Int32) = 0) ∧ Ev (qGG D cA b E) mModel_worthOf 2 (0, 0) 26 [(0, .ref o), (1, .int x1), (2, .long ((-1000000000000))), (4, .long (((r3 / r7) : Int32).toInt64)), (6, .int 0)] [] (n, sh, Rf, I8, L9) post))
set_option maxHeartbeats 4000000 in
set_option maxRecDepth 20000 in
theorem sModel_worthOf_0 {D : va_G} {cA : FieldType → ClassId} {b : Nat} {E : State → Prop} (o : Nat) (n : Nat) (sh : Nat → qC) (Rf : Nat → Nat → Option Nat) (I : Nat → Nat → Int32) (L : Nat → Nat → Int64) (post : Option Value → qS → Prop) (x1 : Int32) (hok : q_ok (qGG D cA b E)) (hw : WfModel (qGG D cA b E) n sh Rf o) (H : fModel_worthOf_0 D cA b E o n sh Rf I L post x1) : Ev (qGG D cA b E) mModel_worthOf 2 (0, 0) 0 [(0, .ref o), (1, .int x1)] [] (n, sh, Rf, I, L) post := by
  unfold fModel_worthOf_0 at H
  refine ev_aload_n dModel_worthOf_0 rfl ?_
  refine ev_iconst (-1) dModel_worthOf_1 (by decide) ?_
  refine ev_putI hok fk_Model_480 (woModel hw) (fun _ _ _ => rfl) rfl rfl dModel_worthOf_2 ?_
  generalize eI1 : q_u I o 120 (-1) = I1
  have H := H I1 eI1
  refine ev_ldc2 (-1000000000000) dModel_worthOf_5 (q_t8 47 (by decide +kernel) rfl) ?_
  refine ev_lstore_n dModel_worthOf_8 (by decide) ?_
  refine ev_aload_n dModel_worthOf_9 rfl ?_
  refine ev_iload_n dModel_worthOf_10 rfl ?_
  refine ev_callV [.int x1] [] (B' := (0, 0)) (B'' := (0, 0)) hok mmModel_waitingAt mk_Model_466 (ci := 12) rfl rfl (woModel hw) rfl (Nat.le_of_ble_eq_true rfl) rfl (Nat.le_of_ble_eq_true rfl) dModel_worthOf_11 rfl (by decide) H (fun v τ p2 => ?_)
  obtain ⟨r3, I4, L5, rfl, rfl, H⟩ := p2
  refine ev_aload_n dModel_worthOf_14 rfl ?_
  refine ev_iload_n dModel_worthOf_15 rfl ?_
  refine ev_callV [.int x1] [.int r3] (B' := (0, 0)) (B'' := (0, 0)) hok mmModel_aTwelfth mk_Model_485 (ci := 12) rfl rfl (woModel hw) rfl (Nat.le_of_ble_eq_true rfl) rfl (Nat.le_of_ble_eq_true rfl) dModel_worthOf_16 rfl (by decide) H (fun v τ p6 => ?_)
  obtain ⟨r7, I8, L9, rfl, rfl, H⟩ := p6
  obtain ⟨h10, H⟩ := H
  refine ev_idiv dModel_worthOf_19 h10 ?_
  refine ev_i2l dModel_worthOf_20 ?_
  refine ev_lstore dModel_worthOf_21 (by decide) ?_
  refine ev_iconst (0) dModel_worthOf_23 (by decide) ?_
  refine ev_istore dModel_worthOf_24 (by decide) ?_
  exact ev_sub [(0, .ref o), (1, .int x1), (2, .long ((-1000000000000))), (4, .long (((r3 / r7) : Int32).toInt64)), (6, .int 0)] rfl H
def fModel_bestPan_55 (D : va_G) (cA : FieldType → ClassId) (b : Nat) (E : State → Prop) (o : Nat) (n : Nat) (sh : Nat → qC) (Rf : Nat → Nat → Option Nat) (I : Nat → Nat → Int32) (L : Nat → Nat → Int64) (post : Option Value → qS → Prop) (x1 : Int32) (x2 : Int32) (x3 : Int64) : Prop :=
  Ev (qGG D cA b E) mModel_bestPan 3 (0, 0) 11 [(0, .ref o), (1, .int x1), (2, .int ((x2 + Int32.ofInt 1)))] [] (n, sh, Rf, I, L) post
set_option maxHeartbeats 4000000 in
set_option maxRecDepth 20000 in
theorem sModel_bestPan_55 {D : va_G} {cA : FieldType → ClassId} {b : Nat} {E : State → Prop} (o : Nat) (n : Nat) (sh : Nat → qC) (Rf : Nat → Nat → Option Nat) (I : Nat → Nat → Int32) (L : Nat → Nat → Int64) (post : Option Value → qS → Prop) (x1 : Int32) (x2 : Int32) (x3 : Int64) (hok : q_ok (qGG D cA b E)) (hw : WfModel (qGG D cA b E) n sh Rf o) (H : fModel_bestPan_55 D cA b E o n sh Rf I L post x1 x2 x3) : Ev (qGG D cA b E) mModel_bestPan 3 (0, 0) 55 [(0, .ref o), (1, .int x1), (2, .int x2), (3, .long x3)] [] (n, sh, Rf, I, L) post := by
  unfold fModel_bestPan_55 at H
  refine ev_iinc dModel_bestPan_55 rfl (by decide) ?_
  refine ev_goto 11 dModel_bestPan_58 (by decide) ?_
  exact ev_sub [(0, .ref o), (1, .int x1), (2, .int ((x2 + Int32.ofInt 1)))] rfl H
def fModel_bestPan_48 (D : va_G) (cA : FieldType → ClassId) (b : Nat) (E : State → Prop) (o : Nat) (n : Nat) (sh : Nat → qC) (Rf : Nat → Nat → Option Nat) (I : Nat → Nat → Int32) (L : Nat → Nat → Int64) (post : Option Value → qS → Prop) (x1 : Int32) (x2 : Int32) (x3 : Int64) : Prop :=
  ∀ L1 : Nat → Nat → Int64, q_u L o 121 x3 = L1 → fModel_bestPan_55 D cA b E o n sh Rf I L1 post x2 x2 x3
set_option maxHeartbeats 4000000 in
set_option maxRecDepth 20000 in
theorem sModel_bestPan_48 {D : va_G} {cA : FieldType → ClassId} {b : Nat} {E : State → Prop} (o : Nat) (n : Nat) (sh : Nat → qC) (Rf : Nat → Nat → Option Nat) (I : Nat → Nat → Int32) (L : Nat → Nat → Int64) (post : Option Value → qS → Prop) (x1 : Int32) (x2 : Int32) (x3 : Int64) (hok : q_ok (qGG D cA b E)) (hw : WfModel (qGG D cA b E) n sh Rf o) (H : fModel_bestPan_48 D cA b E o n sh Rf I L post x1 x2 x3) : Ev (qGG D cA b E) mModel_bestPan 3 (0, 0) 48 [(0, .ref o), (1, .int x1), (2, .int x2), (3, .long x3)] [] (n, sh, Rf, I, L) post := by
  unfold fModel_bestPan_48 at H
  refine ev_iload_n dModel_bestPan_48 rfl ?_
  refine ev_istore_n dModel_bestPan_49 (by decide) ?_
  refine ev_aload_n dModel_bestPan_50 rfl ?_
  refine ev_lload_n dModel_bestPan_51 rfl ?_
  refine ev_putL hok fk_Model_506 (woModel hw) (fun _ _ _ => rfl) rfl rfl dModel_bestPan_52 ?_
  generalize eL1 : q_u L o 121 x3 = L1
  have H := H L1 eL1
  exact ev_sub [(0, .ref o), (1, .int x2), (2, .int x2), (3, .long x3)] rfl (sModel_bestPan_55 o n sh Rf I L1 post x2 x2 x3 hok hw H)
def fModel_bestPan_11 (D : va_G) (cA : FieldType → ClassId) (b : Nat) (E : State → Prop) (o : Nat) (n : Nat) (sh : Nat → qC) (Rf : Nat → Nat → Option Nat) (I : Nat → Nat → Int32) (L : Nat → Nat → Int64) (post : Option Value → qS → Prop) (x1 : Int32) (x2 : Int32) : Prop :=
  Ev (qGG D cA b E) mModel_pans 0 (0, 0) 0 (lv_args 0 [.ref o]) [] (n, sh, Rf, I, L) (fun v τ => ∃ (r2 : Int32) (I3 : Nat → Nat → Int32) (L4 : Nat → Nat → Int64), v = some (.int r2) ∧ τ = (n, sh, Rf, I3, L4) ∧ ((r2 ≤ x2 → post (some (.int x1)) (n, sh, Rf, I3, L4)) ∧ (¬ r2 ≤ x2 → Ev (qGG D cA b E) mModel_worthOf 2 (0, 0) 0 (lv_args 0 [.ref o, .int x2]) [] (n, sh, Rf, I3, L4) (fun v τ => ∃ (r7 : Int64) (I8 : Nat → Nat → Int32) (L9 : Nat → Nat → Int64), v = some (.long r7) ∧ τ = (n, sh, Rf, I8, L9) ∧ (((I8 o 120) < 0 → fModel_bestPan_55 D cA b E o n sh Rf I8 L9 post x1 x2 r7) ∧ (¬ (I8 o 120) < 0 → ((x1 < 0 → fModel_bestPan_48 D cA b E o n sh Rf I8 L9 post x1 x2 r7) ∧ (¬ x1 < 0 → ((0 < (lg_cmp r7 (L9 o 121)) → fModel_bestPan_48 D cA b E o n sh Rf I8 L9 post x1 x2 r7) ∧ (¬ 0 < (lg_cmp r7 (L9 o 121)) → fModel_bestPan_55 D cA b E o n sh Rf I8 L9 post x1 x2 r7))))))))))
set_option maxHeartbeats 4000000 in
set_option maxRecDepth 20000 in
theorem sModel_bestPan_11 {D : va_G} {cA : FieldType → ClassId} {b : Nat} {E : State → Prop} (o : Nat) (n : Nat) (sh : Nat → qC) (Rf : Nat → Nat → Option Nat) (I : Nat → Nat → Int32) (L : Nat → Nat → Int64) (post : Option Value → qS → Prop) (x1 : Int32) (x2 : Int32) (hok : q_ok (qGG D cA b E)) (hw : WfModel (qGG D cA b E) n sh Rf o) (H : fModel_bestPan_11 D cA b E o n sh Rf I L post x1 x2) : Ev (qGG D cA b E) mModel_bestPan 3 (0, 0) 11 [(0, .ref o), (1, .int x1), (2, .int x2)] [] (n, sh, Rf, I, L) post := by
  unfold fModel_bestPan_11 at H
  refine ev_iload_n dModel_bestPan_11 rfl ?_
  refine ev_aload_n dModel_bestPan_12 rfl ?_
  refine ev_callV [] [.int x2] (B' := (0, 0)) (B'' := (0, 0)) hok mmModel_pans mk_Model_433 (ci := 12) rfl rfl (woModel hw) rfl (Nat.le_of_ble_eq_true rfl) rfl (Nat.le_of_ble_eq_true rfl) dModel_bestPan_13 rfl (by decide) H (fun v τ p1 => ?_)
  obtain ⟨r2, I3, L4, rfl, rfl, H⟩ := p1
  refine ev_icmp_ge 61 dModel_bestPan_16 (by decide) (fun c5 => ?_) (fun c5 => ?_)
  · have H := H.1 c5
    refine ev_iload_n dModel_bestPan_61 rfl ?_
    exact ev_iret rfl dModel_bestPan_62 H
  · have H := H.2 c5
    refine ev_aload_n dModel_bestPan_19 rfl ?_
    refine ev_iload_n dModel_bestPan_20 rfl ?_
    refine ev_callV [.int x2] [] (B' := (0, 0)) (B'' := (0, 0)) hok mmModel_worthOf mk_Model_509 (ci := 12) rfl rfl (woModel hw) rfl (Nat.le_of_ble_eq_true rfl) rfl (Nat.le_of_ble_eq_true rfl) dModel_bestPan_21 rfl (by decide) H (fun v τ p6 => ?_)
    obtain ⟨r7, I8, L9, rfl, rfl, H⟩ := p6
    refine ev_lstore_n dModel_bestPan_24 (by decide) ?_
    refine ev_aload_n dModel_bestPan_25 rfl ?_
    refine ev_getI hok fk_Model_480 (woModel hw) (fun _ _ _ => rfl) dModel_bestPan_26 ?_
    refine ev_if_lt 55 dModel_bestPan_29 (by decide) (fun c10 => ?_) (fun c10 => ?_)
    · have H := H.1 c10
      exact ev_sub [(0, .ref o), (1, .int x1), (2, .int x2), (3, .long r7)] rfl (sModel_bestPan_55 o n sh Rf I8 L9 post x1 x2 r7 hok hw H)
    · have H := H.2 c10
      refine ev_iload_n dModel_bestPan_32 rfl ?_
      refine ev_if_lt 48 dModel_bestPan_33 (by decide) (fun c11 => ?_) (fun c11 => ?_)
      · have H := H.1 c11
        exact ev_sub [(0, .ref o), (1, .int x1), (2, .int x2), (3, .long r7)] rfl (sModel_bestPan_48 o n sh Rf I8 L9 post x1 x2 r7 hok hw H)
      · have H := H.2 c11
        refine ev_lload_n dModel_bestPan_36 rfl ?_
        refine ev_aload_n dModel_bestPan_37 rfl ?_
        refine ev_getL hok fk_Model_506 (woModel hw) (fun _ _ _ => rfl) dModel_bestPan_38 ?_
        refine ev_lcmp dModel_bestPan_41 ?_
        refine ev_if_gt 48 dModel_bestPan_42 (by decide) (fun c12 => ?_) (fun c12 => ?_)
        · have H := H.1 c12
          exact ev_sub [(0, .ref o), (1, .int x1), (2, .int x2), (3, .long r7)] rfl (sModel_bestPan_48 o n sh Rf I8 L9 post x1 x2 r7 hok hw H)
        · have H := H.2 c12
          refine ev_goto 55 dModel_bestPan_45 (by decide) ?_
          exact ev_sub [(0, .ref o), (1, .int x1), (2, .int x2), (3, .long r7)] rfl (sModel_bestPan_55 o n sh Rf I8 L9 post x1 x2 r7 hok hw H)
def fModel_bestPan_0 (D : va_G) (cA : FieldType → ClassId) (b : Nat) (E : State → Prop) (o : Nat) (n : Nat) (sh : Nat → qC) (Rf : Nat → Nat → Option Nat) (I : Nat → Nat → Int32) (L : Nat → Nat → Int64) (post : Option Value → qS → Prop)  : Prop :=
  ∀ L1 : Nat → Nat → Int64, q_u L o 121 (-1000000000000) = L1 → Ev (qGG D cA b E) mModel_bestPan 3 (0, 0) 11 [(0, .ref o), (1, .int ((-1))), (2, .int 0)] [] (n, sh, Rf, I, L1) post
set_option maxHeartbeats 4000000 in
set_option maxRecDepth 20000 in
theorem sModel_bestPan_0 {D : va_G} {cA : FieldType → ClassId} {b : Nat} {E : State → Prop} (o : Nat) (n : Nat) (sh : Nat → qC) (Rf : Nat → Nat → Option Nat) (I : Nat → Nat → Int32) (L : Nat → Nat → Int64) (post : Option Value → qS → Prop)  (hok : q_ok (qGG D cA b E)) (hw : WfModel (qGG D cA b E) n sh Rf o) (H : fModel_bestPan_0 D cA b E o n sh Rf I L post ) : Ev (qGG D cA b E) mModel_bestPan 3 (0, 0) 0 [(0, .ref o)] [] (n, sh, Rf, I, L) post := by
  unfold fModel_bestPan_0 at H
  refine ev_iconst (-1) dModel_bestPan_0 (by decide) ?_
  refine ev_istore_n dModel_bestPan_1 (by decide) ?_
  refine ev_aload_n dModel_bestPan_2 rfl ?_
  refine ev_ldc2 (-1000000000000) dModel_bestPan_3 (q_t8 47 (by decide +kernel) rfl) ?_
  refine ev_putL hok fk_Model_506 (woModel hw) (fun _ _ _ => rfl) rfl rfl dModel_bestPan_6 ?_
  generalize eL1 : q_u L o 121 (-1000000000000) = L1
  have H := H L1 eL1
  refine ev_iconst (0) dModel_bestPan_9 (by decide) ?_
  refine ev_istore_n dModel_bestPan_10 (by decide) ?_
  exact ev_sub [(0, .ref o), (1, .int ((-1))), (2, .int 0)] rfl H
def fModel_comes_247 (D : va_G) (cA : FieldType → ClassId) (b : Nat) (E : State → Prop) (o : Nat) (n : Nat) (sh : Nat → qC) (Rf : Nat → Nat → Option Nat) (I : Nat → Nat → Int32) (L : Nat → Nat → Int64) (post : Option Value → qS → Prop) (x1 : Int32) (x2 : Int32) : Prop :=
  Ev (qGG D cA b E) mModel_comes 3 (0, 0) 7 [(0, .ref o), (1, .int x1), (2, .int ((x2 + Int32.ofInt 1)))] [] (n, sh, Rf, I, L) post
set_option maxHeartbeats 4000000 in
set_option maxRecDepth 20000 in
theorem sModel_comes_247 {D : va_G} {cA : FieldType → ClassId} {b : Nat} {E : State → Prop} (o : Nat) (n : Nat) (sh : Nat → qC) (Rf : Nat → Nat → Option Nat) (I : Nat → Nat → Int32) (L : Nat → Nat → Int64) (post : Option Value → qS → Prop) (x1 : Int32) (x2 : Int32) (hok : q_ok (qGG D cA b E)) (hw : WfModel (qGG D cA b E) n sh Rf o) (H : fModel_comes_247 D cA b E o n sh Rf I L post x1 x2) : Ev (qGG D cA b E) mModel_comes 3 (0, 0) 247 [(0, .ref o), (1, .int x1), (2, .int x2)] [] (n, sh, Rf, I, L) post := by
  unfold fModel_comes_247 at H
  refine ev_iinc dModel_comes_247 rfl (by decide) ?_
  refine ev_goto 7 dModel_comes_250 (by decide) ?_
  exact ev_sub [(0, .ref o), (1, .int x1), (2, .int ((x2 + Int32.ofInt 1)))] rfl H
def fModel_comes_183 (D : va_G) (cA : FieldType → ClassId) (b : Nat) (E : State → Prop) (o : Nat) (n : Nat) (sh : Nat → qC) (Rf : Nat → Nat → Option Nat) (I : Nat → Nat → Int32) (L : Nat → Nat → Int64) (post : Option Value → qS → Prop) (x1 : Int32) (x2 : Int32) (x3 : Int32) (x4 : Int32) : Prop :=
  fModel_comes_247 D cA b E o n sh Rf I L post x1 x2
set_option maxHeartbeats 4000000 in
set_option maxRecDepth 20000 in
theorem sModel_comes_183 {D : va_G} {cA : FieldType → ClassId} {b : Nat} {E : State → Prop} (o : Nat) (n : Nat) (sh : Nat → qC) (Rf : Nat → Nat → Option Nat) (I : Nat → Nat → Int32) (L : Nat → Nat → Int64) (post : Option Value → qS → Prop) (x1 : Int32) (x2 : Int32) (x3 : Int32) (x4 : Int32) (hok : q_ok (qGG D cA b E)) (hw : WfModel (qGG D cA b E) n sh Rf o) (H : fModel_comes_183 D cA b E o n sh Rf I L post x1 x2 x3 x4) : Ev (qGG D cA b E) mModel_comes 3 (0, 0) 183 [(0, .ref o), (1, .int x1), (2, .int x2), (3, .int x3), (4, .int x4)] [] (n, sh, Rf, I, L) post := by
  unfold fModel_comes_183 at H
  refine ev_goto 247 dModel_comes_183 (by decide) ?_
  exact ev_sub [(0, .ref o), (1, .int x1), (2, .int x2)] rfl (sModel_comes_247 o n sh Rf I L post x1 x2 hok hw H)
def fModel_comes_66 (D : va_G) (cA : FieldType → ClassId) (b : Nat) (E : State → Prop) (o : Nat) (n : Nat) (sh : Nat → qC) (Rf : Nat → Nat → Option Nat) (I : Nat → Nat → Int32) (L : Nat → Nat → Int64) (post : Option Value → qS → Prop) (x1 : Int32) (x2 : Int32) (x3 : Int32) (z0 : Int32) : Prop :=
  vp_in x2 4000 ∧ vp_in (I (o + 60) (x2 : Int32).toNatClampNeg) 5 ∧ vp_in x2 4000 ∧ vp_in (I (o + 60) (x2 : Int32).toNatClampNeg) 5 ∧ ∀ I4 : Nat → Nat → Int32, q_u I (o + 45) ((I (o + 60) (x2 : Int32).toNatClampNeg) : Int32).toNatClampNeg ((I (o + 45) ((I (o + 60) (x2 : Int32).toNatClampNeg) : Int32).toNatClampNeg) + (I (o + 61) (x2 : Int32).toNatClampNeg)) = I4 → vp_in x2 4000 ∧ ∀ L7 : Nat → Nat → Int64, q_u L o 113 ((L o 113) + ((I4 (o + 61) (x2 : Int32).toNatClampNeg) : Int32).toInt64) = L7 → vp_in x2 4000 ∧ ∀ L9 : Nat → Nat → Int64, q_u L7 o 114 ((L7 o 114) + (((I4 (o + 61) (x2 : Int32).toNatClampNeg) : Int32).toInt64 * ((I4 o 109) : Int32).toInt64)) = L9 → vp_in x2 4000 ∧ (((I4 (o + 58) (x2 : Int32).toNatClampNeg) < 0 → vp_in x2 4000 ∧ ∀ L13 : Nat → Nat → Int64, q_u L9 o 114 ((L9 o 114) + (((I4 (o + 61) (x2 : Int32).toNatClampNeg) : Int32).toInt64 * (z0 : Int32).toInt64)) = L13 → fModel_comes_183 D cA b E o n sh Rf I4 L13 post x1 x2 x3 z0) ∧ (¬ (I4 (o + 58) (x2 : Int32).toNatClampNeg) < 0 → vp_in x2 4000 ∧ vp_in (I4 (o + 58) (x2 : Int32).toNatClampNeg) 6 ∧ vp_in x2 4000 ∧ vp_in (I4 (o + 58) (x2 : Int32).toNatClampNeg) 6 ∧ ∀ L17 : Nat → Nat → Int64, q_u L9 (o + 68) ((I4 (o + 58) (x2 : Int32).toNatClampNeg) : Int32).toNatClampNeg ((L9 (o + 68) ((I4 (o + 58) (x2 : Int32).toNatClampNeg) : Int32).toNatClampNeg) + (((I4 (o + 61) (x2 : Int32).toNatClampNeg) : Int32).toInt64 * (z0 : Int32).toInt64)) = L17 → fModel_comes_183 D cA b E o n sh Rf I4 L17 post x1 x2 x3 z0))
set_option maxHeartbeats 4000000 in
set_option maxRecDepth 20000 in
theorem sModel_comes_66 {D : va_G} {cA : FieldType → ClassId} {b : Nat} {E : State → Prop} (o : Nat) (n : Nat) (sh : Nat → qC) (Rf : Nat → Nat → Option Nat) (I : Nat → Nat → Int32) (L : Nat → Nat → Int64) (post : Option Value → qS → Prop) (x1 : Int32) (x2 : Int32) (x3 : Int32) (z0 : Int32) (hok : q_ok (qGG D cA b E)) (hw : WfModel (qGG D cA b E) n sh Rf o) (H : fModel_comes_66 D cA b E o n sh Rf I L post x1 x2 x3 z0) : Ev (qGG D cA b E) mModel_comes 3 (0, 0) 66 [(0, .ref o), (1, .int x1), (2, .int x2), (3, .int x3)] [.int z0] (n, sh, Rf, I, L) post := by
  unfold fModel_comes_66 at H
  refine ev_istore dModel_comes_66 (by decide) ?_
  refine ev_aload_n dModel_comes_68 rfl ?_
  refine ev_getR hok fk_Model_474 (woModel hw) (fun _ _ _ => rfl) (wrModel_78 hw) dModel_comes_69 ?_
  refine ev_aload_n dModel_comes_72 rfl ?_
  refine ev_getR hok fk_Model_557 (woModel hw) (fun _ _ _ => rfl) (wrModel_93 hw) dModel_comes_73 ?_
  refine ev_iload_n dModel_comes_76 rfl ?_
  obtain ⟨h1, H⟩ := H
  refine ev_iald hok (waModel_93 hw) h1 dModel_comes_77 ?_
  refine ev_dup2_11 dModel_comes_78 rfl rfl ?_
  obtain ⟨h2, H⟩ := H
  refine ev_iald hok (waModel_78 hw) h2 dModel_comes_79 ?_
  refine ev_aload_n dModel_comes_80 rfl ?_
  refine ev_getR hok fk_Model_560 (woModel hw) (fun _ _ _ => rfl) (wrModel_94 hw) dModel_comes_81 ?_
  refine ev_iload_n dModel_comes_84 rfl ?_
  obtain ⟨h3, H⟩ := H
  refine ev_iald hok (waModel_94 hw) h3 dModel_comes_85 ?_
  refine ev_iadd dModel_comes_86 ?_
  obtain ⟨h5, H⟩ := H
  refine ev_iast hok (waModel_78 hw) h5 dModel_comes_87 ?_
  generalize eI4 : q_u I (o + 45) ((I (o + 60) (x2 : Int32).toNatClampNeg) : Int32).toNatClampNeg ((I (o + 45) ((I (o + 60) (x2 : Int32).toNatClampNeg) : Int32).toNatClampNeg) + (I (o + 61) (x2 : Int32).toNatClampNeg)) = I4
  have H := H I4 eI4
  refine ev_aload_n dModel_comes_88 rfl ?_
  refine ev_dup dModel_comes_89 rfl ?_
  refine ev_getL hok fk_Model_597 (woModel hw) (fun _ _ _ => rfl) dModel_comes_90 ?_
  refine ev_aload_n dModel_comes_93 rfl ?_
  refine ev_getR hok fk_Model_560 (woModel hw) (fun _ _ _ => rfl) (wrModel_94 hw) dModel_comes_94 ?_
  refine ev_iload_n dModel_comes_97 rfl ?_
  obtain ⟨h6, H⟩ := H
  refine ev_iald hok (waModel_94 hw) h6 dModel_comes_98 ?_
  refine ev_i2l dModel_comes_99 ?_
  refine ev_ladd dModel_comes_100 ?_
  refine ev_putL hok fk_Model_597 (woModel hw) (fun _ _ _ => rfl) rfl rfl dModel_comes_101 ?_
  generalize eL7 : q_u L o 113 ((L o 113) + ((I4 (o + 61) (x2 : Int32).toNatClampNeg) : Int32).toInt64) = L7
  have H := H L7 eL7
  refine ev_aload_n dModel_comes_104 rfl ?_
  refine ev_dup dModel_comes_105 rfl ?_
  refine ev_getL hok fk_Model_581 (woModel hw) (fun _ _ _ => rfl) dModel_comes_106 ?_
  refine ev_aload_n dModel_comes_109 rfl ?_
  refine ev_getR hok fk_Model_560 (woModel hw) (fun _ _ _ => rfl) (wrModel_94 hw) dModel_comes_110 ?_
  refine ev_iload_n dModel_comes_113 rfl ?_
  obtain ⟨h8, H⟩ := H
  refine ev_iald hok (waModel_94 hw) h8 dModel_comes_114 ?_
  refine ev_i2l dModel_comes_115 ?_
  refine ev_aload_n dModel_comes_116 rfl ?_
  refine ev_getI hok fk_Model_500 (woModel hw) (fun _ _ _ => rfl) dModel_comes_117 ?_
  refine ev_i2l dModel_comes_120 ?_
  refine ev_lmul dModel_comes_121 ?_
  refine ev_ladd dModel_comes_122 ?_
  refine ev_putL hok fk_Model_581 (woModel hw) (fun _ _ _ => rfl) rfl rfl dModel_comes_123 ?_
  generalize eL9 : q_u L7 o 114 ((L7 o 114) + (((I4 (o + 61) (x2 : Int32).toNatClampNeg) : Int32).toInt64 * ((I4 o 109) : Int32).toInt64)) = L9
  have H := H L9 eL9
  refine ev_aload_n dModel_comes_126 rfl ?_
  refine ev_getR hok fk_Model_545 (woModel hw) (fun _ _ _ => rfl) (wrModel_91 hw) dModel_comes_127 ?_
  refine ev_iload_n dModel_comes_130 rfl ?_
  obtain ⟨h10, H⟩ := H
  refine ev_iald hok (waModel_91 hw) h10 dModel_comes_131 ?_
  refine ev_if_lt 163 dModel_comes_132 (by decide) (fun c11 => ?_) (fun c11 => ?_)
  · have H := H.1 c11
    refine ev_aload_n dModel_comes_163 rfl ?_
    refine ev_dup dModel_comes_164 rfl ?_
    refine ev_getL hok fk_Model_581 (woModel hw) (fun _ _ _ => rfl) dModel_comes_165 ?_
    refine ev_aload_n dModel_comes_168 rfl ?_
    refine ev_getR hok fk_Model_560 (woModel hw) (fun _ _ _ => rfl) (wrModel_94 hw) dModel_comes_169 ?_
    refine ev_iload_n dModel_comes_172 rfl ?_
    obtain ⟨h12, H⟩ := H
    refine ev_iald hok (waModel_94 hw) h12 dModel_comes_173 ?_
    refine ev_i2l dModel_comes_174 ?_
    refine ev_iload dModel_comes_175 rfl ?_
    refine ev_i2l dModel_comes_177 ?_
    refine ev_lmul dModel_comes_178 ?_
    refine ev_ladd dModel_comes_179 ?_
    refine ev_putL hok fk_Model_581 (woModel hw) (fun _ _ _ => rfl) rfl rfl dModel_comes_180 ?_
    generalize eL13 : q_u L9 o 114 ((L9 o 114) + (((I4 (o + 61) (x2 : Int32).toNatClampNeg) : Int32).toInt64 * (z0 : Int32).toInt64)) = L13
    have H := H L13 eL13
    exact ev_sub [(0, .ref o), (1, .int x1), (2, .int x2), (3, .int x3), (4, .int z0)] rfl (sModel_comes_183 o n sh Rf I4 L13 post x1 x2 x3 z0 hok hw H)
  · have H := H.2 c11
    refine ev_aload_n dModel_comes_135 rfl ?_
    refine ev_getR hok fk_Model_578 (woModel hw) (fun _ _ _ => rfl) (wrModel_101 hw) dModel_comes_136 ?_
    refine ev_aload_n dModel_comes_139 rfl ?_
    refine ev_getR hok fk_Model_545 (woModel hw) (fun _ _ _ => rfl) (wrModel_91 hw) dModel_comes_140 ?_
    refine ev_iload_n dModel_comes_143 rfl ?_
    obtain ⟨h14, H⟩ := H
    refine ev_iald hok (waModel_91 hw) h14 dModel_comes_144 ?_
    refine ev_dup2_11 dModel_comes_145 rfl rfl ?_
    obtain ⟨h15, H⟩ := H
    refine ev_lald hok (waModel_101 hw) h15 dModel_comes_146 ?_
    refine ev_aload_n dModel_comes_147 rfl ?_
    refine ev_getR hok fk_Model_560 (woModel hw) (fun _ _ _ => rfl) (wrModel_94 hw) dModel_comes_148 ?_
    refine ev_iload_n dModel_comes_151 rfl ?_
    obtain ⟨h16, H⟩ := H
    refine ev_iald hok (waModel_94 hw) h16 dModel_comes_152 ?_
    refine ev_i2l dModel_comes_153 ?_
    refine ev_iload dModel_comes_154 rfl ?_
    refine ev_i2l dModel_comes_156 ?_
    refine ev_lmul dModel_comes_157 ?_
    refine ev_ladd dModel_comes_158 ?_
    obtain ⟨h18, H⟩ := H
    refine ev_last hok (waModel_101 hw) h18 dModel_comes_159 ?_
    generalize eL17 : q_u L9 (o + 68) ((I4 (o + 58) (x2 : Int32).toNatClampNeg) : Int32).toNatClampNeg ((L9 (o + 68) ((I4 (o + 58) (x2 : Int32).toNatClampNeg) : Int32).toNatClampNeg) + (((I4 (o + 61) (x2 : Int32).toNatClampNeg) : Int32).toInt64 * (z0 : Int32).toInt64)) = L17
    have H := H L17 eL17
    refine ev_goto 183 dModel_comes_160 (by decide) ?_
    exact ev_sub [(0, .ref o), (1, .int x1), (2, .int x2), (3, .int x3), (4, .int z0)] rfl (sModel_comes_183 o n sh Rf I4 L17 post x1 x2 x3 z0 hok hw H)
def fModel_comes_7 (D : va_G) (cA : FieldType → ClassId) (b : Nat) (E : State → Prop) (o : Nat) (n : Nat) (sh : Nat → qC) (Rf : Nat → Nat → Option Nat) (I : Nat → Nat → Int32) (L : Nat → Nat → Int64) (post : Option Value → qS → Prop) (x1 : Int32) (x2 : Int32) : Prop :=
  ((x1 ≤ x2 → post none (n, sh, Rf, I, L)) ∧ (¬ x1 ≤ x2 → vp_in x2 4000 ∧ (((I (o + 59) (x2 : Int32).toNatClampNeg) = (I o 57) → vp_in x2 4000 ∧ (((I (o + 67) (x2 : Int32).toNatClampNeg) = 0 → vp_in x2 4000 ∧ vp_in (I (o + 60) (x2 : Int32).toNatClampNeg) 3 ∧ vp_in x2 4000 ∧ vp_in (I (o + 60) (x2 : Int32).toNatClampNeg) 3 ∧ ∀ I9 : Nat → Nat → Int32, q_u I (o + 42) ((I (o + 60) (x2 : Int32).toNatClampNeg) : Int32).toNatClampNeg ((I (o + 42) ((I (o + 60) (x2 : Int32).toNatClampNeg) : Int32).toNatClampNeg) + (10 * (I (o + 61) (x2 : Int32).toNatClampNeg))) = I9 → vp_in x2 4000 ∧ (((I9 (o + 58) (x2 : Int32).toNatClampNeg) < 0 → fModel_comes_247 D cA b E o n sh Rf I9 L post x1 x2) ∧ (¬ (I9 (o + 58) (x2 : Int32).toNatClampNeg) < 0 → vp_in x2 4000 ∧ vp_in x2 4000 ∧ vp_in x2 4000 ∧ vp_in x2 4000 ∧ Ev (qGG D cA b E) mModel_give 2 (0, 0) 0 (lv_args 0 [.ref o, .int ((I9 (o + 58) (x2 : Int32).toNatClampNeg)), .int ((I9 (o + 63) (x2 : Int32).toNatClampNeg)), .int ((I9 (o + 62) (x2 : Int32).toNatClampNeg)), .int ((I9 (o + 64) (x2 : Int32).toNatClampNeg)), .int 0]) [] (n, sh, Rf, I9, L) (fun v τ => ∃ (I19 : Nat → Nat → Int32) (L20 : Nat → Nat → Int64), v = none ∧ τ = (n, sh, Rf, I19, L20) ∧ fModel_comes_247 D cA b E o n sh Rf I19 L20 post x1 x2)))) ∧ (¬ (I (o + 67) (x2 : Int32).toNatClampNeg) = 0 → vp_in x2 4000 ∧ Ev (qGG D cA b E) mModel_priceOf 0 (0, 0) 0 (lv_args 0 [.ref o, .int ((I (o + 60) (x2 : Int32).toNatClampNeg))]) [] (n, sh, Rf, I, L) (fun v τ => ∃ (r23 : Int32) (I24 : Nat → Nat → Int32) (L25 : Nat → Nat → Int64), v = some (.int r23) ∧ τ = (n, sh, Rf, I24, L25) ∧ ((r23 ≤ (I24 o 109) → fModel_comes_66 D cA b E o n sh Rf I24 L25 post x1 x2 r23 0) ∧ (¬ r23 ≤ (I24 o 109) → fModel_comes_66 D cA b E o n sh Rf I24 L25 post x1 x2 r23 (r23 - (I24 o 109)))))))) ∧ (¬ (I (o + 59) (x2 : Int32).toNatClampNeg) = (I o 57) → fModel_comes_247 D cA b E o n sh Rf I L post x1 x2))))
set_option maxHeartbeats 4000000 in
set_option maxRecDepth 20000 in
theorem sModel_comes_7 {D : va_G} {cA : FieldType → ClassId} {b : Nat} {E : State → Prop} (o : Nat) (n : Nat) (sh : Nat → qC) (Rf : Nat → Nat → Option Nat) (I : Nat → Nat → Int32) (L : Nat → Nat → Int64) (post : Option Value → qS → Prop) (x1 : Int32) (x2 : Int32) (hok : q_ok (qGG D cA b E)) (hw : WfModel (qGG D cA b E) n sh Rf o) (H : fModel_comes_7 D cA b E o n sh Rf I L post x1 x2) : Ev (qGG D cA b E) mModel_comes 3 (0, 0) 7 [(0, .ref o), (1, .int x1), (2, .int x2)] [] (n, sh, Rf, I, L) post := by
  unfold fModel_comes_7 at H
  refine ev_iload_n dModel_comes_7 rfl ?_
  refine ev_iload_n dModel_comes_8 rfl ?_
  refine ev_icmp_ge 253 dModel_comes_9 (by decide) (fun c1 => ?_) (fun c1 => ?_)
  · have H := H.1 c1
    exact ev_vret rfl dModel_comes_253 H
  · have H := H.2 c1
    refine ev_aload_n dModel_comes_12 rfl ?_
    refine ev_getR hok fk_Model_551 (woModel hw) (fun _ _ _ => rfl) (wrModel_92 hw) dModel_comes_13 ?_
    refine ev_iload_n dModel_comes_16 rfl ?_
    obtain ⟨h2, H⟩ := H
    refine ev_iald hok (waModel_92 hw) h2 dModel_comes_17 ?_
    refine ev_aload_n dModel_comes_18 rfl ?_
    refine ev_getI hok fk_Model_348 (woModel hw) (fun _ _ _ => rfl) dModel_comes_19 ?_
    refine ev_icmp_eq 28 dModel_comes_22 (by decide) (fun c3 => ?_) (fun c3 => ?_)
    · have H := H.1 c3
      refine ev_aload_n dModel_comes_28 rfl ?_
      refine ev_getR hok fk_Model_554 (woModel hw) (fun _ _ _ => rfl) (wrModel_100 hw) dModel_comes_29 ?_
      refine ev_iload_n dModel_comes_32 rfl ?_
      obtain ⟨h4, H⟩ := H
      refine ev_zald hok (waModel_100 hw) h4 dModel_comes_33 ?_
      refine ev_if_eq 186 dModel_comes_34 (by decide) (fun c5 => ?_) (fun c5 => ?_)
      · have H := H.1 c5
        refine ev_aload_n dModel_comes_186 rfl ?_
        refine ev_getR hok fk_Model_513 (woModel hw) (fun _ _ _ => rfl) (wrModel_75 hw) dModel_comes_187 ?_
        refine ev_aload_n dModel_comes_190 rfl ?_
        refine ev_getR hok fk_Model_557 (woModel hw) (fun _ _ _ => rfl) (wrModel_93 hw) dModel_comes_191 ?_
        refine ev_iload_n dModel_comes_194 rfl ?_
        obtain ⟨h6, H⟩ := H
        refine ev_iald hok (waModel_93 hw) h6 dModel_comes_195 ?_
        refine ev_dup2_11 dModel_comes_196 rfl rfl ?_
        obtain ⟨h7, H⟩ := H
        refine ev_iald hok (waModel_75 hw) h7 dModel_comes_197 ?_
        refine ev_bipush (10) dModel_comes_198 (by decide) ?_
        refine ev_aload_n dModel_comes_200 rfl ?_
        refine ev_getR hok fk_Model_560 (woModel hw) (fun _ _ _ => rfl) (wrModel_94 hw) dModel_comes_201 ?_
        refine ev_iload_n dModel_comes_204 rfl ?_
        obtain ⟨h8, H⟩ := H
        refine ev_iald hok (waModel_94 hw) h8 dModel_comes_205 ?_
        refine ev_imul dModel_comes_206 ?_
        refine ev_iadd dModel_comes_207 ?_
        obtain ⟨h10, H⟩ := H
        refine ev_iast hok (waModel_75 hw) h10 dModel_comes_208 ?_
        generalize eI9 : q_u I (o + 42) ((I (o + 60) (x2 : Int32).toNatClampNeg) : Int32).toNatClampNeg ((I (o + 42) ((I (o + 60) (x2 : Int32).toNatClampNeg) : Int32).toNatClampNeg) + (10 * (I (o + 61) (x2 : Int32).toNatClampNeg))) = I9
        have H := H I9 eI9
        refine ev_aload_n dModel_comes_209 rfl ?_
        refine ev_getR hok fk_Model_545 (woModel hw) (fun _ _ _ => rfl) (wrModel_91 hw) dModel_comes_210 ?_
        refine ev_iload_n dModel_comes_213 rfl ?_
        obtain ⟨h11, H⟩ := H
        refine ev_iald hok (waModel_91 hw) h11 dModel_comes_214 ?_
        refine ev_if_lt 247 dModel_comes_215 (by decide) (fun c12 => ?_) (fun c12 => ?_)
        · have H := H.1 c12
          exact ev_sub [(0, .ref o), (1, .int x1), (2, .int x2)] rfl (sModel_comes_247 o n sh Rf I9 L post x1 x2 hok hw H)
        · have H := H.2 c12
          refine ev_aload_n dModel_comes_218 rfl ?_
          refine ev_aload_n dModel_comes_219 rfl ?_
          refine ev_getR hok fk_Model_545 (woModel hw) (fun _ _ _ => rfl) (wrModel_91 hw) dModel_comes_220 ?_
          refine ev_iload_n dModel_comes_223 rfl ?_
          obtain ⟨h13, H⟩ := H
          refine ev_iald hok (waModel_91 hw) h13 dModel_comes_224 ?_
          refine ev_aload_n dModel_comes_225 rfl ?_
          refine ev_getR hok fk_Model_566 (woModel hw) (fun _ _ _ => rfl) (wrModel_96 hw) dModel_comes_226 ?_
          refine ev_iload_n dModel_comes_229 rfl ?_
          obtain ⟨h14, H⟩ := H
          refine ev_iald hok (waModel_96 hw) h14 dModel_comes_230 ?_
          refine ev_aload_n dModel_comes_231 rfl ?_
          refine ev_getR hok fk_Model_563 (woModel hw) (fun _ _ _ => rfl) (wrModel_95 hw) dModel_comes_232 ?_
          refine ev_iload_n dModel_comes_235 rfl ?_
          obtain ⟨h15, H⟩ := H
          refine ev_iald hok (waModel_95 hw) h15 dModel_comes_236 ?_
          refine ev_aload_n dModel_comes_237 rfl ?_
          refine ev_getR hok fk_Model_569 (woModel hw) (fun _ _ _ => rfl) (wrModel_97 hw) dModel_comes_238 ?_
          refine ev_iload_n dModel_comes_241 rfl ?_
          obtain ⟨h16, H⟩ := H
          refine ev_iald hok (waModel_97 hw) h16 dModel_comes_242 ?_
          refine ev_iconst (0) dModel_comes_243 (by decide) ?_
          refine ev_callV [.int ((I9 (o + 58) (x2 : Int32).toNatClampNeg)), .int ((I9 (o + 63) (x2 : Int32).toNatClampNeg)), .int ((I9 (o + 62) (x2 : Int32).toNatClampNeg)), .int ((I9 (o + 64) (x2 : Int32).toNatClampNeg)), .int 0] [] (B' := (0, 0)) (B'' := (0, 0)) hok mmModel_give mk_Model_600 (ci := 12) rfl rfl (woModel hw) rfl (Nat.le_of_ble_eq_true rfl) rfl (Nat.le_of_ble_eq_true rfl) dModel_comes_244 rfl (by decide) H (fun v τ p17 => ?_)
          obtain ⟨I19, L20, rfl, rfl, H⟩ := p17
          exact ev_sub [(0, .ref o), (1, .int x1), (2, .int x2)] rfl (sModel_comes_247 o n sh Rf I19 L20 post x1 x2 hok hw H)
      · have H := H.2 c5
        refine ev_aload_n dModel_comes_37 rfl ?_
        refine ev_aload_n dModel_comes_38 rfl ?_
        refine ev_getR hok fk_Model_557 (woModel hw) (fun _ _ _ => rfl) (wrModel_93 hw) dModel_comes_39 ?_
        refine ev_iload_n dModel_comes_42 rfl ?_
        obtain ⟨h21, H⟩ := H
        refine ev_iald hok (waModel_93 hw) h21 dModel_comes_43 ?_
        refine ev_callV [.int ((I (o + 60) (x2 : Int32).toNatClampNeg))] [] (B' := (0, 0)) (B'' := (0, 0)) hok mmModel_priceOf mk_Model_497 (ci := 12) rfl rfl (woModel hw) rfl (Nat.le_of_ble_eq_true rfl) rfl (Nat.le_of_ble_eq_true rfl) dModel_comes_44 rfl (by decide) H (fun v τ p22 => ?_)
        obtain ⟨r23, I24, L25, rfl, rfl, H⟩ := p22
        refine ev_istore_n dModel_comes_47 (by decide) ?_
        refine ev_iload_n dModel_comes_48 rfl ?_
        refine ev_aload_n dModel_comes_49 rfl ?_
        refine ev_getI hok fk_Model_500 (woModel hw) (fun _ _ _ => rfl) dModel_comes_50 ?_
        refine ev_icmp_le 65 dModel_comes_53 (by decide) (fun c26 => ?_) (fun c26 => ?_)
        · have H := H.1 c26
          refine ev_iconst (0) dModel_comes_65 (by decide) ?_
          exact ev_sub [(0, .ref o), (1, .int x1), (2, .int x2), (3, .int r23)] rfl (sModel_comes_66 o n sh Rf I24 L25 post x1 x2 r23 0 hok hw H)
        · have H := H.2 c26
          refine ev_iload_n dModel_comes_56 rfl ?_
          refine ev_aload_n dModel_comes_57 rfl ?_
          refine ev_getI hok fk_Model_500 (woModel hw) (fun _ _ _ => rfl) dModel_comes_58 ?_
          refine ev_isub dModel_comes_61 ?_
          refine ev_goto 66 dModel_comes_62 (by decide) ?_
          exact ev_sub [(0, .ref o), (1, .int x1), (2, .int x2), (3, .int r23)] rfl (sModel_comes_66 o n sh Rf I24 L25 post x1 x2 r23 (r23 - (I24 o 109)) hok hw H)
    · have H := H.2 c3
      refine ev_goto 247 dModel_comes_25 (by decide) ?_
      exact ev_sub [(0, .ref o), (1, .int x1), (2, .int x2)] rfl (sModel_comes_247 o n sh Rf I L post x1 x2 hok hw H)
def fModel_comes_0 (D : va_G) (cA : FieldType → ClassId) (b : Nat) (E : State → Prop) (o : Nat) (n : Nat) (sh : Nat → qC) (Rf : Nat → Nat → Option Nat) (I : Nat → Nat → Int32) (L : Nat → Nat → Int64) (post : Option Value → qS → Prop)  : Prop :=
  Ev (qGG D cA b E) mModel_comes 3 (0, 0) 7 [(0, .ref o), (1, .int ((I o 105))), (2, .int 0)] [] (n, sh, Rf, I, L) post
set_option maxHeartbeats 4000000 in
set_option maxRecDepth 20000 in
theorem sModel_comes_0 {D : va_G} {cA : FieldType → ClassId} {b : Nat} {E : State → Prop} (o : Nat) (n : Nat) (sh : Nat → qC) (Rf : Nat → Nat → Option Nat) (I : Nat → Nat → Int32) (L : Nat → Nat → Int64) (post : Option Value → qS → Prop)  (hok : q_ok (qGG D cA b E)) (hw : WfModel (qGG D cA b E) n sh Rf o) (H : fModel_comes_0 D cA b E o n sh Rf I L post ) : Ev (qGG D cA b E) mModel_comes 3 (0, 0) 0 [(0, .ref o)] [] (n, sh, Rf, I, L) post := by
  unfold fModel_comes_0 at H
  refine ev_aload_n dModel_comes_0 rfl ?_
  refine ev_getI hok fk_Model_548 (woModel hw) (fun _ _ _ => rfl) dModel_comes_1 ?_
  refine ev_istore_n dModel_comes_4 (by decide) ?_
  refine ev_iconst (0) dModel_comes_5 (by decide) ?_
  refine ev_istore_n dModel_comes_6 (by decide) ?_
  exact ev_sub [(0, .ref o), (1, .int ((I o 105))), (2, .int 0)] rfl H
def fModel_draw_117 (D : va_G) (cA : FieldType → ClassId) (b : Nat) (E : State → Prop) (o : Nat) (n : Nat) (sh : Nat → qC) (Rf : Nat → Nat → Option Nat) (I : Nat → Nat → Int32) (L : Nat → Nat → Int64) (post : Option Value → qS → Prop) (x1 : Int32) (x2 : Int32) (x3 : Int32) (x4 : Int32) (x5 : Int32) : Prop :=
  Ev (qGG D cA b E) mModel_draw 3 (0, 0) 16 [(0, .ref o), (1, .int x1), (2, .int x2), (3, .int x3), (4, .int ((x4 + Int32.ofInt 1)))] [] (n, sh, Rf, I, L) post
set_option maxHeartbeats 4000000 in
set_option maxRecDepth 20000 in
theorem sModel_draw_117 {D : va_G} {cA : FieldType → ClassId} {b : Nat} {E : State → Prop} (o : Nat) (n : Nat) (sh : Nat → qC) (Rf : Nat → Nat → Option Nat) (I : Nat → Nat → Int32) (L : Nat → Nat → Int64) (post : Option Value → qS → Prop) (x1 : Int32) (x2 : Int32) (x3 : Int32) (x4 : Int32) (x5 : Int32) (hok : q_ok (qGG D cA b E)) (hw : WfModel (qGG D cA b E) n sh Rf o) (H : fModel_draw_117 D cA b E o n sh Rf I L post x1 x2 x3 x4 x5) : Ev (qGG D cA b E) mModel_draw 3 (0, 0) 117 [(0, .ref o), (1, .int x1), (2, .int x2), (3, .int x3), (4, .int x4), (5, .int x5)] [] (n, sh, Rf, I, L) post := by
  unfold fModel_draw_117 at H
  refine ev_iinc dModel_draw_117 rfl (by decide) ?_
  refine ev_goto 16 dModel_draw_120 (by decide) ?_
  exact ev_sub [(0, .ref o), (1, .int x1), (2, .int x2), (3, .int x3), (4, .int ((x4 + Int32.ofInt 1)))] rfl H
def fModel_draw_111 (D : va_G) (cA : FieldType → ClassId) (b : Nat) (E : State → Prop) (o : Nat) (n : Nat) (sh : Nat → qC) (Rf : Nat → Nat → Option Nat) (I : Nat → Nat → Int32) (L : Nat → Nat → Int64) (post : Option Value → qS → Prop) (x1 : Int32) (x2 : Int32) (x3 : Int32) (x4 : Int32) (x5 : Int32) : Prop :=
  Ev (qGG D cA b E) mModel_draw 3 (0, 0) 29 [(0, .ref o), (1, .int x1), (2, .int x2), (3, .int x3), (4, .int x4), (5, .int ((x5 + Int32.ofInt 1)))] [] (n, sh, Rf, I, L) post
set_option maxHeartbeats 4000000 in
set_option maxRecDepth 20000 in
theorem sModel_draw_111 {D : va_G} {cA : FieldType → ClassId} {b : Nat} {E : State → Prop} (o : Nat) (n : Nat) (sh : Nat → qC) (Rf : Nat → Nat → Option Nat) (I : Nat → Nat → Int32) (L : Nat → Nat → Int64) (post : Option Value → qS → Prop) (x1 : Int32) (x2 : Int32) (x3 : Int32) (x4 : Int32) (x5 : Int32) (hok : q_ok (qGG D cA b E)) (hw : WfModel (qGG D cA b E) n sh Rf o) (H : fModel_draw_111 D cA b E o n sh Rf I L post x1 x2 x3 x4 x5) : Ev (qGG D cA b E) mModel_draw 3 (0, 0) 111 [(0, .ref o), (1, .int x1), (2, .int x2), (3, .int x3), (4, .int x4), (5, .int x5)] [] (n, sh, Rf, I, L) post := by
  unfold fModel_draw_111 at H
  refine ev_iinc dModel_draw_111 rfl (by decide) ?_
  refine ev_goto 29 dModel_draw_114 (by decide) ?_
  exact ev_sub [(0, .ref o), (1, .int x1), (2, .int x2), (3, .int x3), (4, .int x4), (5, .int ((x5 + Int32.ofInt 1)))] rfl H
def fModel_draw_98 (D : va_G) (cA : FieldType → ClassId) (b : Nat) (E : State → Prop) (o : Nat) (n : Nat) (sh : Nat → qC) (Rf : Nat → Nat → Option Nat) (I : Nat → Nat → Int32) (L : Nat → Nat → Int64) (post : Option Value → qS → Prop) (x1 : Int32) (x2 : Int32) (x3 : Int32) (x4 : Int32) (x5 : Int32) (z0 : Int32) : Prop :=
  ((z0 = 0 → fModel_draw_111 D cA b E o n sh Rf I L post x1 x2 z0 x4 x5) ∧ (¬ z0 = 0 → Ev (qGG D cA b E) mModel_drawOne 2 (0, 0) 0 (lv_args 0 [.ref o, .int x5, .int x1, .int x2]) [] (n, sh, Rf, I, L) (fun v τ => ∃ (I4 : Nat → Nat → Int32) (L5 : Nat → Nat → Int64), v = none ∧ τ = (n, sh, Rf, I4, L5) ∧ fModel_draw_111 D cA b E o n sh Rf I4 L5 post x1 x2 z0 x4 x5)))
set_option maxHeartbeats 4000000 in
set_option maxRecDepth 20000 in
theorem sModel_draw_98 {D : va_G} {cA : FieldType → ClassId} {b : Nat} {E : State → Prop} (o : Nat) (n : Nat) (sh : Nat → qC) (Rf : Nat → Nat → Option Nat) (I : Nat → Nat → Int32) (L : Nat → Nat → Int64) (post : Option Value → qS → Prop) (x1 : Int32) (x2 : Int32) (x3 : Int32) (x4 : Int32) (x5 : Int32) (z0 : Int32) (hok : q_ok (qGG D cA b E)) (hw : WfModel (qGG D cA b E) n sh Rf o) (H : fModel_draw_98 D cA b E o n sh Rf I L post x1 x2 x3 x4 x5 z0) : Ev (qGG D cA b E) mModel_draw 3 (0, 0) 98 [(0, .ref o), (1, .int x1), (2, .int x2), (3, .int x3), (4, .int x4), (5, .int x5)] [.int z0] (n, sh, Rf, I, L) post := by
  unfold fModel_draw_98 at H
  refine ev_istore_n dModel_draw_98 (by decide) ?_
  refine ev_iload_n dModel_draw_99 rfl ?_
  refine ev_if_eq 111 dModel_draw_100 (by decide) (fun c1 => ?_) (fun c1 => ?_)
  · have H := H.1 c1
    exact ev_sub [(0, .ref o), (1, .int x1), (2, .int x2), (3, .int z0), (4, .int x4), (5, .int x5)] rfl (sModel_draw_111 o n sh Rf I L post x1 x2 z0 x4 x5 hok hw H)
  · have H := H.2 c1
    refine ev_aload_n dModel_draw_103 rfl ?_
    refine ev_iload dModel_draw_104 rfl ?_
    refine ev_iload_n dModel_draw_106 rfl ?_
    refine ev_iload_n dModel_draw_107 rfl ?_
    refine ev_callV [.int x5, .int x1, .int x2] [] (B' := (0, 0)) (B'' := (0, 0)) hok mmModel_drawOne mk_Model_607 (ci := 12) rfl rfl (woModel hw) rfl (Nat.le_of_ble_eq_true rfl) rfl (Nat.le_of_ble_eq_true rfl) dModel_draw_108 rfl (by decide) H (fun v τ p2 => ?_)
    obtain ⟨I4, L5, rfl, rfl, H⟩ := p2
    exact ev_sub [(0, .ref o), (1, .int x1), (2, .int x2), (3, .int z0), (4, .int x4), (5, .int x5)] rfl (sModel_draw_111 o n sh Rf I4 L5 post x1 x2 z0 x4 x5 hok hw H)
def fModel_draw_29 (D : va_G) (cA : FieldType → ClassId) (b : Nat) (E : State → Prop) (o : Nat) (n : Nat) (sh : Nat → qC) (Rf : Nat → Nat → Option Nat) (I : Nat → Nat → Int32) (L : Nat → Nat → Int64) (post : Option Value → qS → Prop) (x1 : Int32) (x2 : Int32) (x3 : Int32) (x4 : Int32) (x5 : Int32) : Prop :=
  (((I o 104) ≤ x5 → fModel_draw_117 D cA b E o n sh Rf I L post x1 x2 x3 x4 x5) ∧ (¬ (I o 104) ≤ x5 → ((x3 = 0 → fModel_draw_117 D cA b E o n sh Rf I L post x1 x2 x3 x4 x5) ∧ (¬ x3 = 0 → vp_in x5 2000 ∧ ((¬ (I (o + 52) (x5 : Int32).toNatClampNeg) = x1 → fModel_draw_111 D cA b E o n sh Rf I L post x1 x2 x3 x4 x5) ∧ ((I (o + 52) (x5 : Int32).toNatClampNeg) = x1 → Ev (qGG D cA b E) mModel_waits 0 (0, 0) 0 (lv_args 0 [.ref o, .int x5]) [] (n, sh, Rf, I, L) (fun v τ => ∃ (r6 : Int32) (I7 : Nat → Nat → Int32) (L8 : Nat → Nat → Int64), v = some (.int r6) ∧ τ = (n, sh, Rf, I7, L8) ∧ ((r6 = 0 → fModel_draw_111 D cA b E o n sh Rf I7 L8 post x1 x2 x3 x4 x5) ∧ (¬ r6 = 0 → vp_in x5 2000 ∧ (((I7 (o + 57) (x5 : Int32).toNatClampNeg) = x4 → vp_in x1 3 ∧ vp_in x5 2000 ∧ (((I7 (o + 44) (x1 : Int32).toNatClampNeg) < (I7 (o + 53) (x5 : Int32).toNatClampNeg) → fModel_draw_98 D cA b E o n sh Rf I7 L8 post x1 x2 x3 x4 x5 0) ∧ (¬ (I7 (o + 44) (x1 : Int32).toNatClampNeg) < (I7 (o + 53) (x5 : Int32).toNatClampNeg) → fModel_draw_98 D cA b E o n sh Rf I7 L8 post x1 x2 x3 x4 x5 1))) ∧ (¬ (I7 (o + 57) (x5 : Int32).toNatClampNeg) = x4 → fModel_draw_111 D cA b E o n sh Rf I7 L8 post x1 x2 x3 x4 x5)))))))))))
set_option maxHeartbeats 4000000 in
set_option maxRecDepth 20000 in
theorem sModel_draw_29 {D : va_G} {cA : FieldType → ClassId} {b : Nat} {E : State → Prop} (o : Nat) (n : Nat) (sh : Nat → qC) (Rf : Nat → Nat → Option Nat) (I : Nat → Nat → Int32) (L : Nat → Nat → Int64) (post : Option Value → qS → Prop) (x1 : Int32) (x2 : Int32) (x3 : Int32) (x4 : Int32) (x5 : Int32) (hok : q_ok (qGG D cA b E)) (hw : WfModel (qGG D cA b E) n sh Rf o) (H : fModel_draw_29 D cA b E o n sh Rf I L post x1 x2 x3 x4 x5) : Ev (qGG D cA b E) mModel_draw 3 (0, 0) 29 [(0, .ref o), (1, .int x1), (2, .int x2), (3, .int x3), (4, .int x4), (5, .int x5)] [] (n, sh, Rf, I, L) post := by
  unfold fModel_draw_29 at H
  refine ev_iload dModel_draw_29 rfl ?_
  refine ev_aload_n dModel_draw_31 rfl ?_
  refine ev_getI hok fk_Model_454 (woModel hw) (fun _ _ _ => rfl) dModel_draw_32 ?_
  refine ev_icmp_ge 117 dModel_draw_35 (by decide) (fun c1 => ?_) (fun c1 => ?_)
  · have H := H.1 c1
    exact ev_sub [(0, .ref o), (1, .int x1), (2, .int x2), (3, .int x3), (4, .int x4), (5, .int x5)] rfl (sModel_draw_117 o n sh Rf I L post x1 x2 x3 x4 x5 hok hw H)
  · have H := H.2 c1
    refine ev_iload_n dModel_draw_38 rfl ?_
    refine ev_if_eq 117 dModel_draw_39 (by decide) (fun c2 => ?_) (fun c2 => ?_)
    · have H := H.1 c2
      exact ev_sub [(0, .ref o), (1, .int x1), (2, .int x2), (3, .int x3), (4, .int x4), (5, .int x5)] rfl (sModel_draw_117 o n sh Rf I L post x1 x2 x3 x4 x5 hok hw H)
    · have H := H.2 c2
      refine ev_aload_n dModel_draw_42 rfl ?_
      refine ev_getR hok fk_Model_457 (woModel hw) (fun _ _ _ => rfl) (wrModel_85 hw) dModel_draw_43 ?_
      refine ev_iload dModel_draw_46 rfl ?_
      obtain ⟨h3, H⟩ := H
      refine ev_iald hok (waModel_85 hw) h3 dModel_draw_48 ?_
      refine ev_iload_n dModel_draw_49 rfl ?_
      refine ev_icmp_ne 111 dModel_draw_50 (by decide) (fun c4 => ?_) (fun c4 => ?_)
      · have H := H.1 c4
        exact ev_sub [(0, .ref o), (1, .int x1), (2, .int x2), (3, .int x3), (4, .int x4), (5, .int x5)] rfl (sModel_draw_111 o n sh Rf I L post x1 x2 x3 x4 x5 hok hw H)
      · have H := H.2 c4
        refine ev_aload_n dModel_draw_53 rfl ?_
        refine ev_iload dModel_draw_54 rfl ?_
        refine ev_callV [.int x5] [] (B' := (0, 0)) (B'' := (0, 0)) hok mmModel_waits mk_Model_460 (ci := 12) rfl rfl (woModel hw) rfl (Nat.le_of_ble_eq_true rfl) rfl (Nat.le_of_ble_eq_true rfl) dModel_draw_56 rfl (by decide) H (fun v τ p5 => ?_)
        obtain ⟨r6, I7, L8, rfl, rfl, H⟩ := p5
        refine ev_if_eq 111 dModel_draw_59 (by decide) (fun c9 => ?_) (fun c9 => ?_)
        · have H := H.1 c9
          exact ev_sub [(0, .ref o), (1, .int x1), (2, .int x2), (3, .int x3), (4, .int x4), (5, .int x5)] rfl (sModel_draw_111 o n sh Rf I7 L8 post x1 x2 x3 x4 x5 hok hw H)
        · have H := H.2 c9
          refine ev_aload_n dModel_draw_62 rfl ?_
          refine ev_getR hok fk_Model_604 (woModel hw) (fun _ _ _ => rfl) (wrModel_90 hw) dModel_draw_63 ?_
          refine ev_iload dModel_draw_66 rfl ?_
          obtain ⟨h10, H⟩ := H
          refine ev_iald hok (waModel_90 hw) h10 dModel_draw_68 ?_
          refine ev_iload dModel_draw_69 rfl ?_
          refine ev_icmp_eq 77 dModel_draw_71 (by decide) (fun c11 => ?_) (fun c11 => ?_)
          · have H := H.1 c11
            refine ev_aload_n dModel_draw_77 rfl ?_
            refine ev_getR hok fk_Model_469 (woModel hw) (fun _ _ _ => rfl) (wrModel_77 hw) dModel_draw_78 ?_
            refine ev_iload_n dModel_draw_81 rfl ?_
            obtain ⟨h12, H⟩ := H
            refine ev_iald hok (waModel_77 hw) h12 dModel_draw_82 ?_
            refine ev_aload_n dModel_draw_83 rfl ?_
            refine ev_getR hok fk_Model_463 (woModel hw) (fun _ _ _ => rfl) (wrModel_86 hw) dModel_draw_84 ?_
            refine ev_iload dModel_draw_87 rfl ?_
            obtain ⟨h13, H⟩ := H
            refine ev_iald hok (waModel_86 hw) h13 dModel_draw_89 ?_
            refine ev_icmp_lt 97 dModel_draw_90 (by decide) (fun c14 => ?_) (fun c14 => ?_)
            · have H := H.1 c14
              refine ev_iconst (0) dModel_draw_97 (by decide) ?_
              exact ev_sub [(0, .ref o), (1, .int x1), (2, .int x2), (3, .int x3), (4, .int x4), (5, .int x5)] rfl (sModel_draw_98 o n sh Rf I7 L8 post x1 x2 x3 x4 x5 0 hok hw H)
            · have H := H.2 c14
              refine ev_iconst (1) dModel_draw_93 (by decide) ?_
              refine ev_goto 98 dModel_draw_94 (by decide) ?_
              exact ev_sub [(0, .ref o), (1, .int x1), (2, .int x2), (3, .int x3), (4, .int x4), (5, .int x5)] rfl (sModel_draw_98 o n sh Rf I7 L8 post x1 x2 x3 x4 x5 1 hok hw H)
          · have H := H.2 c11
            refine ev_goto 111 dModel_draw_74 (by decide) ?_
            exact ev_sub [(0, .ref o), (1, .int x1), (2, .int x2), (3, .int x3), (4, .int x4), (5, .int x5)] rfl (sModel_draw_111 o n sh Rf I7 L8 post x1 x2 x3 x4 x5 hok hw H)
def fModel_draw_16 (D : va_G) (cA : FieldType → ClassId) (b : Nat) (E : State → Prop) (o : Nat) (n : Nat) (sh : Nat → qC) (Rf : Nat → Nat → Option Nat) (I : Nat → Nat → Int32) (L : Nat → Nat → Int64) (post : Option Value → qS → Prop) (x1 : Int32) (x2 : Int32) (x3 : Int32) (x4 : Int32) : Prop :=
  ((5 < x4 → post none (n, sh, Rf, I, L)) ∧ (¬ 5 < x4 → ((x3 = 0 → post none (n, sh, Rf, I, L)) ∧ (¬ x3 = 0 → Ev (qGG D cA b E) mModel_draw 3 (0, 0) 29 [(0, .ref o), (1, .int x1), (2, .int x2), (3, .int x3), (4, .int x4), (5, .int 0)] [] (n, sh, Rf, I, L) post))))
set_option maxHeartbeats 4000000 in
set_option maxRecDepth 20000 in
theorem sModel_draw_16 {D : va_G} {cA : FieldType → ClassId} {b : Nat} {E : State → Prop} (o : Nat) (n : Nat) (sh : Nat → qC) (Rf : Nat → Nat → Option Nat) (I : Nat → Nat → Int32) (L : Nat → Nat → Int64) (post : Option Value → qS → Prop) (x1 : Int32) (x2 : Int32) (x3 : Int32) (x4 : Int32) (hok : q_ok (qGG D cA b E)) (hw : WfModel (qGG D cA b E) n sh Rf o) (H : fModel_draw_16 D cA b E o n sh Rf I L post x1 x2 x3 x4) : Ev (qGG D cA b E) mModel_draw 3 (0, 0) 16 [(0, .ref o), (1, .int x1), (2, .int x2), (3, .int x3), (4, .int x4)] [] (n, sh, Rf, I, L) post := by
  unfold fModel_draw_16 at H
  refine ev_iload dModel_draw_16 rfl ?_
  refine ev_iconst (5) dModel_draw_18 (by decide) ?_
  refine ev_icmp_gt 123 dModel_draw_19 (by decide) (fun c1 => ?_) (fun c1 => ?_)
  · have H := H.1 c1
    exact ev_vret rfl dModel_draw_123 H
  · have H := H.2 c1
    refine ev_iload_n dModel_draw_22 rfl ?_
    refine ev_if_eq 123 dModel_draw_23 (by decide) (fun c2 => ?_) (fun c2 => ?_)
    · have H := H.1 c2
      exact ev_vret rfl dModel_draw_123 H
    · have H := H.2 c2
      refine ev_iconst (0) dModel_draw_26 (by decide) ?_
      refine ev_istore dModel_draw_27 (by decide) ?_
      exact ev_sub [(0, .ref o), (1, .int x1), (2, .int x2), (3, .int x3), (4, .int x4), (5, .int 0)] rfl H
def fModel_draw_0 (D : va_G) (cA : FieldType → ClassId) (b : Nat) (E : State → Prop) (o : Nat) (n : Nat) (sh : Nat → qC) (Rf : Nat → Nat → Option Nat) (I : Nat → Nat → Int32) (L : Nat → Nat → Int64) (post : Option Value → qS → Prop) (x1 : Int32) : Prop :=
  Ev (qGG D cA b E) mModel_worthOf 2 (0, 0) 0 (lv_args 0 [.ref o, .int x1]) [] (n, sh, Rf, I, L) (fun v τ => ∃ (r2 : Int64) (I3 : Nat → Nat → Int32) (L4 : Nat → Nat → Int64), v = some (.long r2) ∧ τ = (n, sh, Rf, I3, L4) ∧ Ev (qGG D cA b E) mModel_draw 3 (0, 0) 16 [(0, .ref o), (1, .int x1), (2, .int ((I3 o 120))), (3, .int 1), (4, .int 0)] [] (n, sh, Rf, I3, L4) post)
set_option maxHeartbeats 4000000 in
set_option maxRecDepth 20000 in
theorem sModel_draw_0 {D : va_G} {cA : FieldType → ClassId} {b : Nat} {E : State → Prop} (o : Nat) (n : Nat) (sh : Nat → qC) (Rf : Nat → Nat → Option Nat) (I : Nat → Nat → Int32) (L : Nat → Nat → Int64) (post : Option Value → qS → Prop) (x1 : Int32) (hok : q_ok (qGG D cA b E)) (hw : WfModel (qGG D cA b E) n sh Rf o) (H : fModel_draw_0 D cA b E o n sh Rf I L post x1) : Ev (qGG D cA b E) mModel_draw 3 (0, 0) 0 [(0, .ref o), (1, .int x1)] [] (n, sh, Rf, I, L) post := by
  unfold fModel_draw_0 at H
  refine ev_aload_n dModel_draw_0 rfl ?_
  refine ev_iload_n dModel_draw_1 rfl ?_
  refine ev_callV [.int x1] [] (B' := (0, 0)) (B'' := (0, 0)) hok mmModel_worthOf mk_Model_509 (ci := 12) rfl rfl (woModel hw) rfl (Nat.le_of_ble_eq_true rfl) rfl (Nat.le_of_ble_eq_true rfl) dModel_draw_2 rfl (by decide) H (fun v τ p1 => ?_)
  obtain ⟨r2, I3, L4, rfl, rfl, H⟩ := p1
  refine ev_pop2_2 dModel_draw_5 rfl ?_
  refine ev_aload_n dModel_draw_6 rfl ?_
  refine ev_getI hok fk_Model_480 (woModel hw) (fun _ _ _ => rfl) dModel_draw_7 ?_
  refine ev_istore_n dModel_draw_10 (by decide) ?_
  refine ev_iconst (1) dModel_draw_11 (by decide) ?_
  refine ev_istore_n dModel_draw_12 (by decide) ?_
  refine ev_iconst (0) dModel_draw_13 (by decide) ?_
  refine ev_istore dModel_draw_14 (by decide) ?_
  exact ev_sub [(0, .ref o), (1, .int x1), (2, .int ((I3 o 120))), (3, .int 1), (4, .int 0)] rfl H
def fModel_must_0 (D : va_G) (cA : FieldType → ClassId) (b : Nat) (E : State → Prop) (o : Nat) (n : Nat) (sh : Nat → qC) (Rf : Nat → Nat → Option Nat) (I : Nat → Nat → Int32) (L : Nat → Nat → Int64) (post : Option Value → qS → Prop) (x1 : Int32) : Prop :=
  Ev (qGG D cA b E) mModel_isGood 0 (0, 0) 0 (lv_args 0 [.ref o]) [] (n, sh, Rf, I, L) (fun v τ => ∃ (r2 : Int32) (I3 : Nat → Nat → Int32) (L4 : Nat → Nat → Int64), v = some (.int r2) ∧ τ = (n, sh, Rf, I3, L4) ∧ ((¬ r2 = 0 → ((x1 = 0 → Ev (qGG D cA b E) mModel_wrong 1 (0, 0) 0 (lv_args 0 [.ref o]) [] (n, sh, Rf, I3, L4) (fun v τ => ∃ (I9 : Nat → Nat → Int32) (L10 : Nat → Nat → Int64), v = none ∧ τ = (n, sh, Rf, I9, L10) ∧ post none (n, sh, Rf, I9, L10))) ∧ (¬ x1 = 0 → Ev (qGG D cA b E) mModel_next 2 (0, 0) 0 (lv_args 0 [.ref o]) [] (n, sh, Rf, I3, L4) (fun v τ => ∃ (I13 : Nat → Nat → Int32) (L14 : Nat → Nat → Int64), v = none ∧ τ = (n, sh, Rf, I13, L14) ∧ post none (n, sh, Rf, I13, L14))))) ∧ (r2 = 0 → post none (n, sh, Rf, I3, L4))))
set_option maxHeartbeats 4000000 in
set_option maxRecDepth 20000 in
theorem sModel_must_0 {D : va_G} {cA : FieldType → ClassId} {b : Nat} {E : State → Prop} (o : Nat) (n : Nat) (sh : Nat → qC) (Rf : Nat → Nat → Option Nat) (I : Nat → Nat → Int32) (L : Nat → Nat → Int64) (post : Option Value → qS → Prop) (x1 : Int32) (hok : q_ok (qGG D cA b E)) (hw : WfModel (qGG D cA b E) n sh Rf o) (H : fModel_must_0 D cA b E o n sh Rf I L post x1) : Ev (qGG D cA b E) mModel_must 3 (0, 0) 0 [(0, .ref o), (1, .int x1)] [] (n, sh, Rf, I, L) post := by
  unfold fModel_must_0 at H
  refine ev_aload_n dModel_must_0 rfl ?_
  refine ev_callV [] [] (B' := (0, 0)) (B'' := (0, 0)) hok mmModel_isGood mk_Model_126 (ci := 12) rfl rfl (woModel hw) rfl (Nat.le_of_ble_eq_true rfl) rfl (Nat.le_of_ble_eq_true rfl) dModel_must_1 rfl (by decide) H (fun v τ p1 => ?_)
  obtain ⟨r2, I3, L4, rfl, rfl, H⟩ := p1
  refine ev_if_ne 8 dModel_must_4 (by decide) (fun c5 => ?_) (fun c5 => ?_)
  · have H := H.1 c5
    refine ev_iload_n dModel_must_8 rfl ?_
    refine ev_if_eq 19 dModel_must_9 (by decide) (fun c6 => ?_) (fun c6 => ?_)
    · have H := H.1 c6
      refine ev_aload_n dModel_must_19 rfl ?_
      refine ev_callV [] [] (B' := (0, 0)) (B'' := (0, 0)) hok mmModel_wrong mk_Model_134 (ci := 12) rfl rfl (woModel hw) rfl (Nat.le_of_ble_eq_true rfl) rfl (Nat.le_of_ble_eq_true rfl) dModel_must_20 rfl (by decide) H (fun v τ p7 => ?_)
      obtain ⟨I9, L10, rfl, rfl, H⟩ := p7
      exact ev_vret rfl dModel_must_23 H
    · have H := H.2 c6
      refine ev_aload_n dModel_must_12 rfl ?_
      refine ev_callV [] [] (B' := (0, 0)) (B'' := (0, 0)) hok mmModel_next mk_Model_130 (ci := 12) rfl rfl (woModel hw) rfl (Nat.le_of_ble_eq_true rfl) rfl (Nat.le_of_ble_eq_true rfl) dModel_must_13 rfl (by decide) H (fun v τ p11 => ?_)
      obtain ⟨I13, L14, rfl, rfl, H⟩ := p11
      refine ev_goto 23 dModel_must_16 (by decide) ?_
      exact ev_vret rfl dModel_must_23 H
  · have H := H.2 c5
    exact ev_vret rfl dModel_must_7 H
def fModel_numeral_69 (D : va_G) (cA : FieldType → ClassId) (b : Nat) (E : State → Prop) (o : Nat) (n : Nat) (sh : Nat → qC) (Rf : Nat → Nat → Option Nat) (I : Nat → Nat → Int32) (L : Nat → Nat → Int64) (post : Option Value → qS → Prop) (x1 : Int32) (x2 : Int32) (x3 : Int32) : Prop :=
  Ev (qGG D cA b E) mModel_isGood 0 (0, 0) 0 (lv_args 0 [.ref o]) [] (n, sh, Rf, I, L) (fun v τ => ∃ (r2 : Int32) (I3 : Nat → Nat → Int32) (L4 : Nat → Nat → Int64), v = some (.int r2) ∧ τ = (n, sh, Rf, I3, L4) ∧ ((r2 = 0 → post (some (.int x1)) (n, sh, Rf, I3, L4)) ∧ (¬ r2 = 0 → post (some (.int x3)) (n, sh, Rf, I3, L4))))
set_option maxHeartbeats 4000000 in
set_option maxRecDepth 20000 in
theorem sModel_numeral_69 {D : va_G} {cA : FieldType → ClassId} {b : Nat} {E : State → Prop} (o : Nat) (n : Nat) (sh : Nat → qC) (Rf : Nat → Nat → Option Nat) (I : Nat → Nat → Int32) (L : Nat → Nat → Int64) (post : Option Value → qS → Prop) (x1 : Int32) (x2 : Int32) (x3 : Int32) (hok : q_ok (qGG D cA b E)) (hw : WfModel (qGG D cA b E) n sh Rf o) (H : fModel_numeral_69 D cA b E o n sh Rf I L post x1 x2 x3) : Ev (qGG D cA b E) mModel_numeral 3 (0, 0) 69 [(0, .ref o), (1, .int x1), (2, .int x2), (3, .int x3)] [] (n, sh, Rf, I, L) post := by
  unfold fModel_numeral_69 at H
  refine ev_aload_n dModel_numeral_69 rfl ?_
  refine ev_callV [] [] (B' := (0, 0)) (B'' := (0, 0)) hok mmModel_isGood mk_Model_126 (ci := 12) rfl rfl (woModel hw) rfl (Nat.le_of_ble_eq_true rfl) rfl (Nat.le_of_ble_eq_true rfl) dModel_numeral_70 rfl (by decide) H (fun v τ p1 => ?_)
  obtain ⟨r2, I3, L4, rfl, rfl, H⟩ := p1
  refine ev_if_eq 80 dModel_numeral_73 (by decide) (fun c5 => ?_) (fun c5 => ?_)
  · have H := H.1 c5
    refine ev_iload_n dModel_numeral_80 rfl ?_
    exact ev_iret rfl dModel_numeral_81 H
  · have H := H.2 c5
    refine ev_iload_n dModel_numeral_76 rfl ?_
    refine ev_goto 81 dModel_numeral_77 (by decide) ?_
    exact ev_iret rfl dModel_numeral_81 H
def fModel_numeral_53 (D : va_G) (cA : FieldType → ClassId) (b : Nat) (E : State → Prop) (o : Nat) (n : Nat) (sh : Nat → qC) (Rf : Nat → Nat → Option Nat) (I : Nat → Nat → Int32) (L : Nat → Nat → Int64) (post : Option Value → qS → Prop) (x1 : Int32) (x2 : Int32) : Prop :=
  Ev (qGG D cA b E) mModel_isGood 0 (0, 0) 0 (lv_args 0 [.ref o]) [] (n, sh, Rf, I, L) (fun v τ => ∃ (r2 : Int32) (I3 : Nat → Nat → Int32) (L4 : Nat → Nat → Int64), v = some (.int r2) ∧ τ = (n, sh, Rf, I3, L4) ∧ ((r2 = 0 → fModel_numeral_69 D cA b E o n sh Rf I3 L4 post x1 x2 (I o 9)) ∧ (¬ r2 = 0 → Ev (qGG D cA b E) mModel_next 2 (0, 0) 0 (lv_args 0 [.ref o]) [] (n, sh, Rf, I3, L4) (fun v τ => ∃ (I8 : Nat → Nat → Int32) (L9 : Nat → Nat → Int64), v = none ∧ τ = (n, sh, Rf, I8, L9) ∧ fModel_numeral_69 D cA b E o n sh Rf I8 L9 post x1 x2 (I o 9)))))
set_option maxHeartbeats 4000000 in
set_option maxRecDepth 20000 in
theorem sModel_numeral_53 {D : va_G} {cA : FieldType → ClassId} {b : Nat} {E : State → Prop} (o : Nat) (n : Nat) (sh : Nat → qC) (Rf : Nat → Nat → Option Nat) (I : Nat → Nat → Int32) (L : Nat → Nat → Int64) (post : Option Value → qS → Prop) (x1 : Int32) (x2 : Int32) (hok : q_ok (qGG D cA b E)) (hw : WfModel (qGG D cA b E) n sh Rf o) (H : fModel_numeral_53 D cA b E o n sh Rf I L post x1 x2) : Ev (qGG D cA b E) mModel_numeral 3 (0, 0) 53 [(0, .ref o), (1, .int x1), (2, .int x2)] [] (n, sh, Rf, I, L) post := by
  unfold fModel_numeral_53 at H
  refine ev_aload_n dModel_numeral_53 rfl ?_
  refine ev_getI hok fk_Model_108 (woModel hw) (fun _ _ _ => rfl) dModel_numeral_54 ?_
  refine ev_istore_n dModel_numeral_57 (by decide) ?_
  refine ev_aload_n dModel_numeral_58 rfl ?_
  refine ev_callV [] [] (B' := (0, 0)) (B'' := (0, 0)) hok mmModel_isGood mk_Model_126 (ci := 12) rfl rfl (woModel hw) rfl (Nat.le_of_ble_eq_true rfl) rfl (Nat.le_of_ble_eq_true rfl) dModel_numeral_59 rfl (by decide) H (fun v τ p1 => ?_)
  obtain ⟨r2, I3, L4, rfl, rfl, H⟩ := p1
  refine ev_if_eq 69 dModel_numeral_62 (by decide) (fun c5 => ?_) (fun c5 => ?_)
  · have H := H.1 c5
    exact ev_sub [(0, .ref o), (1, .int x1), (2, .int x2), (3, .int ((I o 9)))] rfl (sModel_numeral_69 o n sh Rf I3 L4 post x1 x2 (I o 9) hok hw H)
  · have H := H.2 c5
    refine ev_aload_n dModel_numeral_65 rfl ?_
    refine ev_callV [] [] (B' := (0, 0)) (B'' := (0, 0)) hok mmModel_next mk_Model_130 (ci := 12) rfl rfl (woModel hw) rfl (Nat.le_of_ble_eq_true rfl) rfl (Nat.le_of_ble_eq_true rfl) dModel_numeral_66 rfl (by decide) H (fun v τ p6 => ?_)
    obtain ⟨I8, L9, rfl, rfl, H⟩ := p6
    exact ev_sub [(0, .ref o), (1, .int x1), (2, .int x2), (3, .int ((I o 9)))] rfl (sModel_numeral_69 o n sh Rf I8 L9 post x1 x2 (I o 9) hok hw H)
def fModel_numeral_44 (D : va_G) (cA : FieldType → ClassId) (b : Nat) (E : State → Prop) (o : Nat) (n : Nat) (sh : Nat → qC) (Rf : Nat → Nat → Option Nat) (I : Nat → Nat → Int32) (L : Nat → Nat → Int64) (post : Option Value → qS → Prop) (x1 : Int32) (x2 : Int32) : Prop :=
  Ev (qGG D cA b E) mModel_fails 0 (0, 0) 0 (lv_args 0 [.ref o, .int 4, .int ((I o 6))]) [] (n, sh, Rf, I, L) (fun v τ => ∃ (I3 : Nat → Nat → Int32) (L4 : Nat → Nat → Int64), v = none ∧ τ = (n, sh, Rf, I3, L4) ∧ fModel_numeral_53 D cA b E o n sh Rf I3 L4 post x1 x2)
set_option maxHeartbeats 4000000 in
set_option maxRecDepth 20000 in
theorem sModel_numeral_44 {D : va_G} {cA : FieldType → ClassId} {b : Nat} {E : State → Prop} (o : Nat) (n : Nat) (sh : Nat → qC) (Rf : Nat → Nat → Option Nat) (I : Nat → Nat → Int32) (L : Nat → Nat → Int64) (post : Option Value → qS → Prop) (x1 : Int32) (x2 : Int32) (hok : q_ok (qGG D cA b E)) (hw : WfModel (qGG D cA b E) n sh Rf o) (H : fModel_numeral_44 D cA b E o n sh Rf I L post x1 x2) : Ev (qGG D cA b E) mModel_numeral 3 (0, 0) 44 [(0, .ref o), (1, .int x1), (2, .int x2)] [] (n, sh, Rf, I, L) post := by
  unfold fModel_numeral_44 at H
  refine ev_aload_n dModel_numeral_44 rfl ?_
  refine ev_iconst (4) dModel_numeral_45 (by decide) ?_
  refine ev_aload_n dModel_numeral_46 rfl ?_
  refine ev_getI hok fk_Model_95 (woModel hw) (fun _ _ _ => rfl) dModel_numeral_47 ?_
  refine ev_callV [.int 4, .int ((I o 6))] [] (B' := (0, 0)) (B'' := (0, 0)) hok mmModel_fails mk_Model_122 (ci := 12) rfl rfl (woModel hw) rfl (Nat.le_of_ble_eq_true rfl) rfl (Nat.le_of_ble_eq_true rfl) dModel_numeral_50 rfl (by decide) H (fun v τ p1 => ?_)
  obtain ⟨I3, L4, rfl, rfl, H⟩ := p1
  exact ev_sub [(0, .ref o), (1, .int x1), (2, .int x2)] rfl (sModel_numeral_53 o n sh Rf I3 L4 post x1 x2 hok hw H)
def fModel_numeral_21 (D : va_G) (cA : FieldType → ClassId) (b : Nat) (E : State → Prop) (o : Nat) (n : Nat) (sh : Nat → qC) (Rf : Nat → Nat → Option Nat) (I : Nat → Nat → Int32) (L : Nat → Nat → Int64) (post : Option Value → qS → Prop) (x1 : Int32) (x2 : Int32) : Prop :=
  Ev (qGG D cA b E) mModel_isGood 0 (0, 0) 0 (lv_args 0 [.ref o]) [] (n, sh, Rf, I, L) (fun v τ => ∃ (r2 : Int32) (I3 : Nat → Nat → Int32) (L4 : Nat → Nat → Int64), v = some (.int r2) ∧ τ = (n, sh, Rf, I3, L4) ∧ ((r2 = 0 → fModel_numeral_53 D cA b E o n sh Rf I3 L4 post x1 x2) ∧ (¬ r2 = 0 → (((I3 o 9) < x1 → fModel_numeral_44 D cA b E o n sh Rf I3 L4 post x1 x2) ∧ (¬ (I3 o 9) < x1 → (((I3 o 9) ≤ x2 → fModel_numeral_53 D cA b E o n sh Rf I3 L4 post x1 x2) ∧ (¬ (I3 o 9) ≤ x2 → fModel_numeral_44 D cA b E o n sh Rf I3 L4 post x1 x2)))))))
set_option maxHeartbeats 4000000 in
set_option maxRecDepth 20000 in
theorem sModel_numeral_21 {D : va_G} {cA : FieldType → ClassId} {b : Nat} {E : State → Prop} (o : Nat) (n : Nat) (sh : Nat → qC) (Rf : Nat → Nat → Option Nat) (I : Nat → Nat → Int32) (L : Nat → Nat → Int64) (post : Option Value → qS → Prop) (x1 : Int32) (x2 : Int32) (hok : q_ok (qGG D cA b E)) (hw : WfModel (qGG D cA b E) n sh Rf o) (H : fModel_numeral_21 D cA b E o n sh Rf I L post x1 x2) : Ev (qGG D cA b E) mModel_numeral 3 (0, 0) 21 [(0, .ref o), (1, .int x1), (2, .int x2)] [] (n, sh, Rf, I, L) post := by
  unfold fModel_numeral_21 at H
  refine ev_aload_n dModel_numeral_21 rfl ?_
  refine ev_callV [] [] (B' := (0, 0)) (B'' := (0, 0)) hok mmModel_isGood mk_Model_126 (ci := 12) rfl rfl (woModel hw) rfl (Nat.le_of_ble_eq_true rfl) rfl (Nat.le_of_ble_eq_true rfl) dModel_numeral_22 rfl (by decide) H (fun v τ p1 => ?_)
  obtain ⟨r2, I3, L4, rfl, rfl, H⟩ := p1
  refine ev_if_eq 53 dModel_numeral_25 (by decide) (fun c5 => ?_) (fun c5 => ?_)
  · have H := H.1 c5
    exact ev_sub [(0, .ref o), (1, .int x1), (2, .int x2)] rfl (sModel_numeral_53 o n sh Rf I3 L4 post x1 x2 hok hw H)
  · have H := H.2 c5
    refine ev_aload_n dModel_numeral_28 rfl ?_
    refine ev_getI hok fk_Model_108 (woModel hw) (fun _ _ _ => rfl) dModel_numeral_29 ?_
    refine ev_iload_n dModel_numeral_32 rfl ?_
    refine ev_icmp_lt 44 dModel_numeral_33 (by decide) (fun c6 => ?_) (fun c6 => ?_)
    · have H := H.1 c6
      exact ev_sub [(0, .ref o), (1, .int x1), (2, .int x2)] rfl (sModel_numeral_44 o n sh Rf I3 L4 post x1 x2 hok hw H)
    · have H := H.2 c6
      refine ev_aload_n dModel_numeral_36 rfl ?_
      refine ev_getI hok fk_Model_108 (woModel hw) (fun _ _ _ => rfl) dModel_numeral_37 ?_
      refine ev_iload_n dModel_numeral_40 rfl ?_
      refine ev_icmp_le 53 dModel_numeral_41 (by decide) (fun c7 => ?_) (fun c7 => ?_)
      · have H := H.1 c7
        exact ev_sub [(0, .ref o), (1, .int x1), (2, .int x2)] rfl (sModel_numeral_53 o n sh Rf I3 L4 post x1 x2 hok hw H)
      · have H := H.2 c7
        exact ev_sub [(0, .ref o), (1, .int x1), (2, .int x2)] rfl (sModel_numeral_44 o n sh Rf I3 L4 post x1 x2 hok hw H)
def fModel_numeral_0 (D : va_G) (cA : FieldType → ClassId) (b : Nat) (E : State → Prop) (o : Nat) (n : Nat) (sh : Nat → qC) (Rf : Nat → Nat → Option Nat) (I : Nat → Nat → Int32) (L : Nat → Nat → Int64) (post : Option Value → qS → Prop) (x1 : Int32) (x2 : Int32) : Prop :=
  Ev (qGG D cA b E) mModel_isGood 0 (0, 0) 0 (lv_args 0 [.ref o]) [] (n, sh, Rf, I, L) (fun v τ => ∃ (r2 : Int32) (I3 : Nat → Nat → Int32) (L4 : Nat → Nat → Int64), v = some (.int r2) ∧ τ = (n, sh, Rf, I3, L4) ∧ ((¬ r2 = 0 → (((I3 o 8) = 4 → fModel_numeral_21 D cA b E o n sh Rf I3 L4 post x1 x2) ∧ (¬ (I3 o 8) = 4 → Ev (qGG D cA b E) mModel_wrong 1 (0, 0) 0 (lv_args 0 [.ref o]) [] (n, sh, Rf, I3, L4) (fun v τ => ∃ (I9 : Nat → Nat → Int32) (L10 : Nat → Nat → Int64), v = none ∧ τ = (n, sh, Rf, I9, L10) ∧ fModel_numeral_21 D cA b E o n sh Rf I9 L10 post x1 x2)))) ∧ (r2 = 0 → post (some (.int x1)) (n, sh, Rf, I3, L4))))
set_option maxHeartbeats 4000000 in
set_option maxRecDepth 20000 in
theorem sModel_numeral_0 {D : va_G} {cA : FieldType → ClassId} {b : Nat} {E : State → Prop} (o : Nat) (n : Nat) (sh : Nat → qC) (Rf : Nat → Nat → Option Nat) (I : Nat → Nat → Int32) (L : Nat → Nat → Int64) (post : Option Value → qS → Prop) (x1 : Int32) (x2 : Int32) (hok : q_ok (qGG D cA b E)) (hw : WfModel (qGG D cA b E) n sh Rf o) (H : fModel_numeral_0 D cA b E o n sh Rf I L post x1 x2) : Ev (qGG D cA b E) mModel_numeral 3 (0, 0) 0 [(0, .ref o), (1, .int x1), (2, .int x2)] [] (n, sh, Rf, I, L) post := by
  unfold fModel_numeral_0 at H
  refine ev_aload_n dModel_numeral_0 rfl ?_
  refine ev_callV [] [] (B' := (0, 0)) (B'' := (0, 0)) hok mmModel_isGood mk_Model_126 (ci := 12) rfl rfl (woModel hw) rfl (Nat.le_of_ble_eq_true rfl) rfl (Nat.le_of_ble_eq_true rfl) dModel_numeral_1 rfl (by decide) H (fun v τ p1 => ?_)
  obtain ⟨r2, I3, L4, rfl, rfl, H⟩ := p1
  refine ev_if_ne 9 dModel_numeral_4 (by decide) (fun c5 => ?_) (fun c5 => ?_)
  · have H := H.1 c5
    refine ev_aload_n dModel_numeral_9 rfl ?_
    refine ev_getI hok fk_Model_98 (woModel hw) (fun _ _ _ => rfl) dModel_numeral_10 ?_
    refine ev_iconst (4) dModel_numeral_13 (by decide) ?_
    refine ev_icmp_eq 21 dModel_numeral_14 (by decide) (fun c6 => ?_) (fun c6 => ?_)
    · have H := H.1 c6
      exact ev_sub [(0, .ref o), (1, .int x1), (2, .int x2)] rfl (sModel_numeral_21 o n sh Rf I3 L4 post x1 x2 hok hw H)
    · have H := H.2 c6
      refine ev_aload_n dModel_numeral_17 rfl ?_
      refine ev_callV [] [] (B' := (0, 0)) (B'' := (0, 0)) hok mmModel_wrong mk_Model_134 (ci := 12) rfl rfl (woModel hw) rfl (Nat.le_of_ble_eq_true rfl) rfl (Nat.le_of_ble_eq_true rfl) dModel_numeral_18 rfl (by decide) H (fun v τ p7 => ?_)
      obtain ⟨I9, L10, rfl, rfl, H⟩ := p7
      exact ev_sub [(0, .ref o), (1, .int x1), (2, .int x2)] rfl (sModel_numeral_21 o n sh Rf I9 L10 post x1 x2 hok hw H)
  · have H := H.2 c5
    refine ev_iload_n dModel_numeral_7 rfl ?_
    exact ev_iret rfl dModel_numeral_8 H
def fModel_ran_0 (D : va_G) (cA : FieldType → ClassId) (b : Nat) (E : State → Prop) (o : Nat) (n : Nat) (sh : Nat → qC) (Rf : Nat → Nat → Option Nat) (I : Nat → Nat → Int32) (L : Nat → Nat → Int64) (post : Option Value → qS → Prop) (x1 : Int32) : Prop :=
  ((¬ (I o 135) = 0 → ((x1 = (0 : Int32) → post (some (.long ((L o 112)))) (n, sh, Rf, I, L)) ∧ (¬ x1 = (0 : Int32) → ((x1 = (1 : Int32) → post (some (.long ((L o 113)))) (n, sh, Rf, I, L)) ∧ (¬ x1 = (1 : Int32) → ((x1 = (2 : Int32) → post (some (.long ((L o 114)))) (n, sh, Rf, I, L)) ∧ (¬ x1 = (2 : Int32) → ((x1 = (3 : Int32) → post (some (.long ((L o 115)))) (n, sh, Rf, I, L)) ∧ (¬ x1 = (3 : Int32) → ((x1 = (4 : Int32) → post (some (.long ((L o 116)))) (n, sh, Rf, I, L)) ∧ (¬ x1 = (4 : Int32) → ((x1 = (5 : Int32) → post (some (.long ((L o 117)))) (n, sh, Rf, I, L)) ∧ (¬ x1 = (5 : Int32) → ((x1 = (6 : Int32) → Ev (qGG D cA b E) mModel_waitMany 1 (0, 0) 0 (lv_args 0 [.ref o]) [] (n, sh, Rf, I, L) (fun v τ => ∃ (r3 : Int32) (I4 : Nat → Nat → Int32) (L5 : Nat → Nat → Int64), v = some (.int r3) ∧ τ = (n, sh, Rf, I4, L5) ∧ post (some (.long ((r3 : Int32).toInt64))) (n, sh, Rf, I4, L5))) ∧ (¬ x1 = (6 : Int32) → ((x1 = (7 : Int32) → Ev (qGG D cA b E) mModel_waitingAll 2 (0, 0) 0 (lv_args 0 [.ref o]) [] (n, sh, Rf, I, L) (fun v τ => ∃ (r7 : Int32) (I8 : Nat → Nat → Int32) (L9 : Nat → Nat → Int64), v = some (.int r7) ∧ τ = (n, sh, Rf, I8, L9) ∧ post (some (.long ((r7 : Int32).toInt64))) (n, sh, Rf, I8, L9))) ∧ (¬ x1 = (7 : Int32) → ((x1 = (8 : Int32) → post (some (.long ((L o 118)))) (n, sh, Rf, I, L)) ∧ (¬ x1 = (8 : Int32) → ((x1 = (9 : Int32) → post (some (.long ((L o 119)))) (n, sh, Rf, I, L)) ∧ (¬ x1 = (9 : Int32) → ((x1 = (10 : Int32) → post (some (.long (((I o 136) : Int32).toInt64))) (n, sh, Rf, I, L)) ∧ (¬ x1 = (10 : Int32) → post (some (.long ((-1)))) (n, sh, Rf, I, L)))))))))))))))))))))))) ∧ ((I o 135) = 0 → post (some (.long ((-1)))) (n, sh, Rf, I, L)))
set_option maxHeartbeats 4000000 in
set_option maxRecDepth 20000 in
theorem sModel_ran_0 {D : va_G} {cA : FieldType → ClassId} {b : Nat} {E : State → Prop} (o : Nat) (n : Nat) (sh : Nat → qC) (Rf : Nat → Nat → Option Nat) (I : Nat → Nat → Int32) (L : Nat → Nat → Int64) (post : Option Value → qS → Prop) (x1 : Int32) (hok : q_ok (qGG D cA b E)) (hw : WfModel (qGG D cA b E) n sh Rf o) (H : fModel_ran_0 D cA b E o n sh Rf I L post x1) : Ev (qGG D cA b E) mModel_ran 3 (0, 0) 0 [(0, .ref o), (1, .int x1)] [] (n, sh, Rf, I, L) post := by
  unfold fModel_ran_0 at H
  refine ev_aload_n dModel_ran_0 rfl ?_
  refine ev_getI hok fk_Model_172 (woModel hw) (fun _ _ _ => rfl) dModel_ran_1 ?_
  refine ev_if_ne 11 dModel_ran_4 (by decide) (fun c1 => ?_) (fun c1 => ?_)
  · have H := H.1 c1
    refine ev_iload_n dModel_ran_11 rfl ?_
    rcases q_em (x1 = (0)) with c0 | c0
    · have H := H.1 c0
      refine ev_tableIn 72 dModel_ran_12 (by rw [c0]; decide) (by rw [c0]; decide) (off := 60) (by rw [c0]; rfl) (by decide) ?_
      refine ev_aload_n dModel_ran_72 rfl ?_
      refine ev_getL hok fk_Model_630 (woModel hw) (fun _ _ _ => rfl) dModel_ran_73 ?_
      exact ev_lret rfl dModel_ran_76 H
    have H := H.2 c0
    rcases q_em (x1 = (1)) with c1 | c1
    · have H := H.1 c1
      refine ev_tableIn 77 dModel_ran_12 (by rw [c1]; decide) (by rw [c1]; decide) (off := 65) (by rw [c1]; rfl) (by decide) ?_
      refine ev_aload_n dModel_ran_77 rfl ?_
      refine ev_getL hok fk_Model_597 (woModel hw) (fun _ _ _ => rfl) dModel_ran_78 ?_
      exact ev_lret rfl dModel_ran_81 H
    have H := H.2 c1
    rcases q_em (x1 = (2)) with c2 | c2
    · have H := H.1 c2
      refine ev_tableIn 82 dModel_ran_12 (by rw [c2]; decide) (by rw [c2]; decide) (off := 70) (by rw [c2]; rfl) (by decide) ?_
      refine ev_aload_n dModel_ran_82 rfl ?_
      refine ev_getL hok fk_Model_581 (woModel hw) (fun _ _ _ => rfl) dModel_ran_83 ?_
      exact ev_lret rfl dModel_ran_86 H
    have H := H.2 c2
    rcases q_em (x1 = (3)) with c3 | c3
    · have H := H.1 c3
      refine ev_tableIn 87 dModel_ran_12 (by rw [c3]; decide) (by rw [c3]; decide) (off := 75) (by rw [c3]; rfl) (by decide) ?_
      refine ev_aload_n dModel_ran_87 rfl ?_
      refine ev_getL hok fk_Model_700 (woModel hw) (fun _ _ _ => rfl) dModel_ran_88 ?_
      exact ev_lret rfl dModel_ran_91 H
    have H := H.2 c3
    rcases q_em (x1 = (4)) with c4 | c4
    · have H := H.1 c4
      refine ev_tableIn 92 dModel_ran_12 (by rw [c4]; decide) (by rw [c4]; decide) (off := 80) (by rw [c4]; rfl) (by decide) ?_
      refine ev_aload_n dModel_ran_92 rfl ?_
      refine ev_getL hok fk_Model_703 (woModel hw) (fun _ _ _ => rfl) dModel_ran_93 ?_
      exact ev_lret rfl dModel_ran_96 H
    have H := H.2 c4
    rcases q_em (x1 = (5)) with c5 | c5
    · have H := H.1 c5
      refine ev_tableIn 97 dModel_ran_12 (by rw [c5]; decide) (by rw [c5]; decide) (off := 85) (by rw [c5]; rfl) (by decide) ?_
      refine ev_aload_n dModel_ran_97 rfl ?_
      refine ev_getL hok fk_Model_617 (woModel hw) (fun _ _ _ => rfl) dModel_ran_98 ?_
      exact ev_lret rfl dModel_ran_101 H
    have H := H.2 c5
    rcases q_em (x1 = (6)) with c6 | c6
    · have H := H.1 c6
      refine ev_tableIn 102 dModel_ran_12 (by rw [c6]; decide) (by rw [c6]; decide) (off := 90) (by rw [c6]; rfl) (by decide) ?_
      refine ev_aload_n dModel_ran_102 rfl ?_
      refine ev_callV [] [] (B' := (0, 0)) (B'' := (0, 0)) hok mmModel_waitMany mk_Model_777 (ci := 12) rfl rfl (woModel hw) rfl (Nat.le_of_ble_eq_true rfl) rfl (Nat.le_of_ble_eq_true rfl) dModel_ran_103 rfl (by decide) H (fun v τ p2 => ?_)
      obtain ⟨r3, I4, L5, rfl, rfl, H⟩ := p2
      refine ev_i2l dModel_ran_106 ?_
      exact ev_lret rfl dModel_ran_107 H
    have H := H.2 c6
    rcases q_em (x1 = (7)) with c7 | c7
    · have H := H.1 c7
      refine ev_tableIn 108 dModel_ran_12 (by rw [c7]; decide) (by rw [c7]; decide) (off := 96) (by rw [c7]; rfl) (by decide) ?_
      refine ev_aload_n dModel_ran_108 rfl ?_
      refine ev_callV [] [] (B' := (0, 0)) (B'' := (0, 0)) hok mmModel_waitingAll mk_Model_351 (ci := 12) rfl rfl (woModel hw) rfl (Nat.le_of_ble_eq_true rfl) rfl (Nat.le_of_ble_eq_true rfl) dModel_ran_109 rfl (by decide) H (fun v τ p6 => ?_)
      obtain ⟨r7, I8, L9, rfl, rfl, H⟩ := p6
      refine ev_i2l dModel_ran_112 ?_
      exact ev_lret rfl dModel_ran_113 H
    have H := H.2 c7
    rcases q_em (x1 = (8)) with c8 | c8
    · have H := H.1 c8
      refine ev_tableIn 114 dModel_ran_12 (by rw [c8]; decide) (by rw [c8]; decide) (off := 102) (by rw [c8]; rfl) (by decide) ?_
      refine ev_aload_n dModel_ran_114 rfl ?_
      refine ev_getL hok fk_Model_614 (woModel hw) (fun _ _ _ => rfl) dModel_ran_115 ?_
      exact ev_lret rfl dModel_ran_118 H
    have H := H.2 c8
    rcases q_em (x1 = (9)) with c9 | c9
    · have H := H.1 c9
      refine ev_tableIn 119 dModel_ran_12 (by rw [c9]; decide) (by rw [c9]; decide) (off := 107) (by rw [c9]; rfl) (by decide) ?_
      refine ev_aload_n dModel_ran_119 rfl ?_
      refine ev_getL hok fk_Model_611 (woModel hw) (fun _ _ _ => rfl) dModel_ran_120 ?_
      exact ev_lret rfl dModel_ran_123 H
    have H := H.2 c9
    rcases q_em (x1 = (10)) with c10 | c10
    · have H := H.1 c10
      refine ev_tableIn 124 dModel_ran_12 (by rw [c10]; decide) (by rw [c10]; decide) (off := 112) (by rw [c10]; rfl) (by decide) ?_
      refine ev_aload_n dModel_ran_124 rfl ?_
      refine ev_getI hok fk_Model_766 (woModel hw) (fun _ _ _ => rfl) dModel_ran_125 ?_
      refine ev_i2l dModel_ran_128 ?_
      exact ev_lret rfl dModel_ran_129 H
    have H := H.2 c10
    refine ev_tableOut 130 dModel_ran_12 (by have e0 : (0 : Int) ≠ (x1 : Int32).toInt := fun h => c0 (Int32.toInt_inj.mp (h.symm.trans (by decide))); have e1 : (1 : Int) ≠ (x1 : Int32).toInt := fun h => c1 (Int32.toInt_inj.mp (h.symm.trans (by decide))); have e2 : (2 : Int) ≠ (x1 : Int32).toInt := fun h => c2 (Int32.toInt_inj.mp (h.symm.trans (by decide))); have e3 : (3 : Int) ≠ (x1 : Int32).toInt := fun h => c3 (Int32.toInt_inj.mp (h.symm.trans (by decide))); have e4 : (4 : Int) ≠ (x1 : Int32).toInt := fun h => c4 (Int32.toInt_inj.mp (h.symm.trans (by decide))); have e5 : (5 : Int) ≠ (x1 : Int32).toInt := fun h => c5 (Int32.toInt_inj.mp (h.symm.trans (by decide))); have e6 : (6 : Int) ≠ (x1 : Int32).toInt := fun h => c6 (Int32.toInt_inj.mp (h.symm.trans (by decide))); have e7 : (7 : Int) ≠ (x1 : Int32).toInt := fun h => c7 (Int32.toInt_inj.mp (h.symm.trans (by decide))); have e8 : (8 : Int) ≠ (x1 : Int32).toInt := fun h => c8 (Int32.toInt_inj.mp (h.symm.trans (by decide))); have e9 : (9 : Int) ≠ (x1 : Int32).toInt := fun h => c9 (Int32.toInt_inj.mp (h.symm.trans (by decide))); have e10 : (10 : Int) ≠ (x1 : Int32).toInt := fun h => c10 (Int32.toInt_inj.mp (h.symm.trans (by decide))); omega) (by decide) ?_
    refine ev_ldc2 (-1) dModel_ran_130 (q_t8 152 (by decide +kernel) rfl) ?_
    exact ev_lret rfl dModel_ran_133 H
  · have H := H.2 c1
    refine ev_ldc2 (-1) dModel_ran_7 (q_t8 152 (by decide +kernel) rfl) ?_
    exact ev_lret rfl dModel_ran_10 H
def fModel_term_0 (D : va_G) (cA : FieldType → ClassId) (b : Nat) (E : State → Prop) (o : Nat) (n : Nat) (sh : Nat → qC) (Rf : Nat → Nat → Option Nat) (I : Nat → Nat → Int32) (L : Nat → Nat → Int64) (post : Option Value → qS → Prop) (x1 : Int32) (x2 : Int32) : Prop :=
  ((x1 = (68 : Int32) → post (some (.int ((I o 53)))) (n, sh, Rf, I, L)) ∧ (¬ x1 = (68 : Int32) → ((x1 = (78 : Int32) → post (some (.int x2)) (n, sh, Rf, I, L)) ∧ (¬ x1 = (78 : Int32) → ((x1 = (97 : Int32) → post (some (.int ((I o 54)))) (n, sh, Rf, I, L)) ∧ (¬ x1 = (97 : Int32) → ((x1 = (100 : Int32) → Ev (qGG D cA b E) mModel_madeAll 1 (0, 0) 0 (lv_args 0 [.ref o]) [] (n, sh, Rf, I, L) (fun v τ => ∃ (r2 : Int32) (I3 : Nat → Nat → Int32) (L4 : Nat → Nat → Int64), v = some (.int r2) ∧ τ = (n, sh, Rf, I3, L4) ∧ post (some (.int r2)) (n, sh, Rf, I3, L4))) ∧ (¬ x1 = (100 : Int32) → ((x1 = (107 : Int32) → post (some (.int ((I o 55)))) (n, sh, Rf, I, L)) ∧ (¬ x1 = (107 : Int32) → ((x1 = (109 : Int32) → post (some (.int (((I o 57) - (I o 57) / 12 * 12)))) (n, sh, Rf, I, L)) ∧ (¬ x1 = (109 : Int32) → ((x1 = (110 : Int32) → post (some (.int ((I o 52)))) (n, sh, Rf, I, L)) ∧ (¬ x1 = (110 : Int32) → ((x1 = (115 : Int32) → post (some (.int ((I o 51)))) (n, sh, Rf, I, L)) ∧ (¬ x1 = (115 : Int32) → ((x1 = (119 : Int32) → Ev (qGG D cA b E) mModel_waitingAll 2 (0, 0) 0 (lv_args 0 [.ref o]) [] (n, sh, Rf, I, L) (fun v τ => ∃ (r6 : Int32) (I7 : Nat → Nat → Int32) (L8 : Nat → Nat → Int64), v = some (.int r6) ∧ τ = (n, sh, Rf, I7, L8) ∧ post (some (.int r6)) (n, sh, Rf, I7, L8))) ∧ (¬ x1 = (119 : Int32) → ((x1 = (121 : Int32) → post (some (.int (((I o 57) / 12)))) (n, sh, Rf, I, L)) ∧ (¬ x1 = (121 : Int32) → post (some (.int ((I o 56)))) (n, sh, Rf, I, L)))))))))))))))))))))
set_option maxHeartbeats 4000000 in
set_option maxRecDepth 20000 in
theorem sModel_term_0 {D : va_G} {cA : FieldType → ClassId} {b : Nat} {E : State → Prop} (o : Nat) (n : Nat) (sh : Nat → qC) (Rf : Nat → Nat → Option Nat) (I : Nat → Nat → Int32) (L : Nat → Nat → Int64) (post : Option Value → qS → Prop) (x1 : Int32) (x2 : Int32) (hok : q_ok (qGG D cA b E)) (hw : WfModel (qGG D cA b E) n sh Rf o) (H : fModel_term_0 D cA b E o n sh Rf I L post x1 x2) : Ev (qGG D cA b E) mModel_term 3 (0, 0) 0 [(0, .ref o), (1, .int x1), (2, .int x2)] [] (n, sh, Rf, I, L) post := by
  unfold fModel_term_0 at H
  refine ev_iload_n dModel_term_0 rfl ?_
  rcases q_em (x1 = (68)) with c0 | c0
  · have H := H.1 c0
    refine ev_lookup 130 dModel_term_1 (by decide) (off := 129) (by rw [c0]; decide) (by decide) ?_
    refine ev_aload_n dModel_term_130 rfl ?_
    refine ev_getI hok fk_Model_363 (woModel hw) (fun _ _ _ => rfl) dModel_term_131 ?_
    exact ev_iret rfl dModel_term_134 H
  have H := H.2 c0
  rcases q_em (x1 = (78)) with c1 | c1
  · have H := H.1 c1
    refine ev_lookup 92 dModel_term_1 (by decide) (off := 91) (by rw [c1]; decide) (by decide) ?_
    refine ev_iload_n dModel_term_92 rfl ?_
    exact ev_iret rfl dModel_term_93 H
  have H := H.2 c1
  rcases q_em (x1 = (97)) with c2 | c2
  · have H := H.1 c2
    refine ev_lookup 135 dModel_term_1 (by decide) (off := 134) (by rw [c2]; decide) (by decide) ?_
    refine ev_aload_n dModel_term_135 rfl ?_
    refine ev_getI hok fk_Model_366 (woModel hw) (fun _ _ _ => rfl) dModel_term_136 ?_
    exact ev_iret rfl dModel_term_139 H
  have H := H.2 c2
  rcases q_em (x1 = (100)) with c3 | c3
  · have H := H.1 c3
    refine ev_lookup 115 dModel_term_1 (by decide) (off := 114) (by rw [c3]; decide) (by decide) ?_
    refine ev_aload_n dModel_term_115 rfl ?_
    refine ev_callV [] [] (B' := (0, 0)) (B'' := (0, 0)) hok mmModel_madeAll mk_Model_354 (ci := 12) rfl rfl (woModel hw) rfl (Nat.le_of_ble_eq_true rfl) rfl (Nat.le_of_ble_eq_true rfl) dModel_term_116 rfl (by decide) H (fun v τ p1 => ?_)
    obtain ⟨r2, I3, L4, rfl, rfl, H⟩ := p1
    exact ev_iret rfl dModel_term_119 H
  have H := H.2 c3
  rcases q_em (x1 = (107)) with c4 | c4
  · have H := H.1 c4
    refine ev_lookup 140 dModel_term_1 (by decide) (off := 139) (by rw [c4]; decide) (by decide) ?_
    refine ev_aload_n dModel_term_140 rfl ?_
    refine ev_getI hok fk_Model_369 (woModel hw) (fun _ _ _ => rfl) dModel_term_141 ?_
    exact ev_iret rfl dModel_term_144 H
  have H := H.2 c4
  rcases q_em (x1 = (109)) with c5 | c5
  · have H := H.1 c5
    refine ev_lookup 102 dModel_term_1 (by decide) (off := 101) (by rw [c5]; decide) (by decide) ?_
    refine ev_aload_n dModel_term_102 rfl ?_
    refine ev_getI hok fk_Model_348 (woModel hw) (fun _ _ _ => rfl) dModel_term_103 ?_
    refine ev_bipush (12) dModel_term_106 (by decide) ?_
    refine ev_irem dModel_term_108 (by decide) ?_
    exact ev_iret rfl dModel_term_109 H
  have H := H.2 c5
  rcases q_em (x1 = (110)) with c6 | c6
  · have H := H.1 c6
    refine ev_lookup 125 dModel_term_1 (by decide) (off := 124) (by rw [c6]; decide) (by decide) ?_
    refine ev_aload_n dModel_term_125 rfl ?_
    refine ev_getI hok fk_Model_360 (woModel hw) (fun _ _ _ => rfl) dModel_term_126 ?_
    exact ev_iret rfl dModel_term_129 H
  have H := H.2 c6
  rcases q_em (x1 = (115)) with c7 | c7
  · have H := H.1 c7
    refine ev_lookup 120 dModel_term_1 (by decide) (off := 119) (by rw [c7]; decide) (by decide) ?_
    refine ev_aload_n dModel_term_120 rfl ?_
    refine ev_getI hok fk_Model_357 (woModel hw) (fun _ _ _ => rfl) dModel_term_121 ?_
    exact ev_iret rfl dModel_term_124 H
  have H := H.2 c7
  rcases q_em (x1 = (119)) with c8 | c8
  · have H := H.1 c8
    refine ev_lookup 110 dModel_term_1 (by decide) (off := 109) (by rw [c8]; decide) (by decide) ?_
    refine ev_aload_n dModel_term_110 rfl ?_
    refine ev_callV [] [] (B' := (0, 0)) (B'' := (0, 0)) hok mmModel_waitingAll mk_Model_351 (ci := 12) rfl rfl (woModel hw) rfl (Nat.le_of_ble_eq_true rfl) rfl (Nat.le_of_ble_eq_true rfl) dModel_term_111 rfl (by decide) H (fun v τ p5 => ?_)
    obtain ⟨r6, I7, L8, rfl, rfl, H⟩ := p5
    exact ev_iret rfl dModel_term_114 H
  have H := H.2 c8
  rcases q_em (x1 = (121)) with c9 | c9
  · have H := H.1 c9
    refine ev_lookup 94 dModel_term_1 (by decide) (off := 93) (by rw [c9]; decide) (by decide) ?_
    refine ev_aload_n dModel_term_94 rfl ?_
    refine ev_getI hok fk_Model_348 (woModel hw) (fun _ _ _ => rfl) dModel_term_95 ?_
    refine ev_bipush (12) dModel_term_98 (by decide) ?_
    refine ev_idiv dModel_term_100 (by decide) ?_
    exact ev_iret rfl dModel_term_101 H
  have H := H.2 c9
  refine ev_lookup 145 dModel_term_1 (by decide) (off := 144) (by have e0 : (68 : Int) ≠ (x1 : Int32).toInt := fun h => c0 (Int32.toInt_inj.mp (h.symm.trans (by decide))); have e1 : (78 : Int) ≠ (x1 : Int32).toInt := fun h => c1 (Int32.toInt_inj.mp (h.symm.trans (by decide))); have e2 : (97 : Int) ≠ (x1 : Int32).toInt := fun h => c2 (Int32.toInt_inj.mp (h.symm.trans (by decide))); have e3 : (100 : Int) ≠ (x1 : Int32).toInt := fun h => c3 (Int32.toInt_inj.mp (h.symm.trans (by decide))); have e4 : (107 : Int) ≠ (x1 : Int32).toInt := fun h => c4 (Int32.toInt_inj.mp (h.symm.trans (by decide))); have e5 : (109 : Int) ≠ (x1 : Int32).toInt := fun h => c5 (Int32.toInt_inj.mp (h.symm.trans (by decide))); have e6 : (110 : Int) ≠ (x1 : Int32).toInt := fun h => c6 (Int32.toInt_inj.mp (h.symm.trans (by decide))); have e7 : (115 : Int) ≠ (x1 : Int32).toInt := fun h => c7 (Int32.toInt_inj.mp (h.symm.trans (by decide))); have e8 : (119 : Int) ≠ (x1 : Int32).toInt := fun h => c8 (Int32.toInt_inj.mp (h.symm.trans (by decide))); have e9 : (121 : Int) ≠ (x1 : Int32).toInt := fun h => c9 (Int32.toInt_inj.mp (h.symm.trans (by decide))); simp [Op.lookupswitch.offset, *]) (by decide) ?_
  refine ev_aload_n dModel_term_145 rfl ?_
  refine ev_getI hok fk_Model_372 (woModel hw) (fun _ _ _ => rfl) dModel_term_146 ?_
  exact ev_iret rfl dModel_term_149 H
def fModel_unit_228 (D : va_G) (cA : FieldType → ClassId) (b : Nat) (E : State → Prop) (o : Nat) (n : Nat) (sh : Nat → qC) (Rf : Nat → Nat → Option Nat) (I : Nat → Nat → Int32) (L : Nat → Nat → Int64) (post : Option Value → qS → Prop) (x1 : Int32) (x2 : Int32) (z0 : Int32) : Prop :=
  ((¬ x2 = 0 → Ev (qGG D cA b E) mModel_step 0 (0, 0) 0 (lv_args 0 [.ref o, .int z0, .int 0]) [] (n, sh, Rf, I, L) (fun v τ => ∃ (I4 : Nat → Nat → Int32) (L5 : Nat → Nat → Int64), v = none ∧ τ = (n, sh, Rf, I4, L5) ∧ Ev (qGG D cA b E) mModel_next 2 (0, 0) 0 (lv_args 0 [.ref o]) [] (n, sh, Rf, I4, L5) (fun v τ => ∃ (I8 : Nat → Nat → Int32) (L9 : Nat → Nat → Int64), v = none ∧ τ = (n, sh, Rf, I8, L9) ∧ post (some (.int 0)) (n, sh, Rf, I8, L9)))) ∧ (x2 = 0 → Ev (qGG D cA b E) mModel_step 0 (0, 0) 0 (lv_args 0 [.ref o, .int z0, .int ((I o 9))]) [] (n, sh, Rf, I, L) (fun v τ => ∃ (I12 : Nat → Nat → Int32) (L13 : Nat → Nat → Int64), v = none ∧ τ = (n, sh, Rf, I12, L13) ∧ Ev (qGG D cA b E) mModel_next 2 (0, 0) 0 (lv_args 0 [.ref o]) [] (n, sh, Rf, I12, L13) (fun v τ => ∃ (I16 : Nat → Nat → Int32) (L17 : Nat → Nat → Int64), v = none ∧ τ = (n, sh, Rf, I16, L17) ∧ post (some (.int 0)) (n, sh, Rf, I16, L17)))))
set_option maxHeartbeats 4000000 in
set_option maxRecDepth 20000 in
theorem sModel_unit_228 {D : va_G} {cA : FieldType → ClassId} {b : Nat} {E : State → Prop} (o : Nat) (n : Nat) (sh : Nat → qC) (Rf : Nat → Nat → Option Nat) (I : Nat → Nat → Int32) (L : Nat → Nat → Int64) (post : Option Value → qS → Prop) (x1 : Int32) (x2 : Int32) (z0 : Int32) (hok : q_ok (qGG D cA b E)) (hw : WfModel (qGG D cA b E) n sh Rf o) (H : fModel_unit_228 D cA b E o n sh Rf I L post x1 x2 z0) : Ev (qGG D cA b E) mModel_unit 3 (0, 0) 228 [(0, .ref o), (1, .int x1), (2, .int x2)] [.int z0, .ref o] (n, sh, Rf, I, L) post := by
  unfold fModel_unit_228 at H
  refine ev_iload_n dModel_unit_228 rfl ?_
  refine ev_if_ne 239 dModel_unit_229 (by decide) (fun c1 => ?_) (fun c1 => ?_)
  · have H := H.1 c1
    refine ev_iconst (0) dModel_unit_239 (by decide) ?_
    refine ev_callV [.int z0, .int 0] [] (B' := (0, 0)) (B'' := (0, 0)) hok mmModel_step mk_Model_339 (ci := 12) rfl rfl (woModel hw) rfl (Nat.le_of_ble_eq_true rfl) rfl (Nat.le_of_ble_eq_true rfl) dModel_unit_240 rfl (by decide) H (fun v τ p2 => ?_)
    obtain ⟨I4, L5, rfl, rfl, H⟩ := p2
    refine ev_aload_n dModel_unit_243 rfl ?_
    refine ev_callV [] [] (B' := (0, 0)) (B'' := (0, 0)) hok mmModel_next mk_Model_130 (ci := 12) rfl rfl (woModel hw) rfl (Nat.le_of_ble_eq_true rfl) rfl (Nat.le_of_ble_eq_true rfl) dModel_unit_244 rfl (by decide) H (fun v τ p6 => ?_)
    obtain ⟨I8, L9, rfl, rfl, H⟩ := p6
    refine ev_iconst (0) dModel_unit_247 (by decide) ?_
    exact ev_zret rfl (by decide) dModel_unit_248 H
  · have H := H.2 c1
    refine ev_aload_n dModel_unit_232 rfl ?_
    refine ev_getI hok fk_Model_108 (woModel hw) (fun _ _ _ => rfl) dModel_unit_233 ?_
    refine ev_goto 240 dModel_unit_236 (by decide) ?_
    refine ev_callV [.int z0, .int ((I o 9))] [] (B' := (0, 0)) (B'' := (0, 0)) hok mmModel_step mk_Model_339 (ci := 12) rfl rfl (woModel hw) rfl (Nat.le_of_ble_eq_true rfl) rfl (Nat.le_of_ble_eq_true rfl) dModel_unit_240 rfl (by decide) H (fun v τ p10 => ?_)
    obtain ⟨I12, L13, rfl, rfl, H⟩ := p10
    refine ev_aload_n dModel_unit_243 rfl ?_
    refine ev_callV [] [] (B' := (0, 0)) (B'' := (0, 0)) hok mmModel_next mk_Model_130 (ci := 12) rfl rfl (woModel hw) rfl (Nat.le_of_ble_eq_true rfl) rfl (Nat.le_of_ble_eq_true rfl) dModel_unit_244 rfl (by decide) H (fun v τ p14 => ?_)
    obtain ⟨I16, L17, rfl, rfl, H⟩ := p14
    refine ev_iconst (0) dModel_unit_247 (by decide) ?_
    exact ev_zret rfl (by decide) dModel_unit_248 H
def fModel_unit_140 (D : va_G) (cA : FieldType → ClassId) (b : Nat) (E : State → Prop) (o : Nat) (n : Nat) (sh : Nat → qC) (Rf : Nat → Nat → Option Nat) (I : Nat → Nat → Int32) (L : Nat → Nat → Int64) (post : Option Value → qS → Prop) (x1 : Int32) (x2 : Int32) : Prop :=
  Ev (qGG D cA b E) mModel_wrong 1 (0, 0) 0 (lv_args 0 [.ref o]) [] (n, sh, Rf, I, L) (fun v τ => ∃ (I3 : Nat → Nat → Int32) (L4 : Nat → Nat → Int64), v = none ∧ τ = (n, sh, Rf, I3, L4) ∧ Ev (qGG D cA b E) mModel_isGood 0 (0, 0) 0 (lv_args 0 [.ref o]) [] (n, sh, Rf, I3, L4) (fun v τ => ∃ (r6 : Int32) (I7 : Nat → Nat → Int32) (L8 : Nat → Nat → Int64), v = some (.int r6) ∧ τ = (n, sh, Rf, I7, L8) ∧ ((¬ r6 = 0 → ∀ I10 : Nat → Nat → Int32, q_u I7 o 46 ((I7 o 46) + 1) = I10 → Ev (qGG D cA b E) mModel_is 1 (0, 0) 0 (lv_args 0 [.ref o, .int 40]) [] (n, sh, Rf, I10, L8) (fun v τ => ∃ (r12 : Int32) (I13 : Nat → Nat → Int32) (L14 : Nat → Nat → Int64), v = some (.int r12) ∧ τ = (n, sh, Rf, I13, L14) ∧ ((r12 = 0 → ((¬ x2 = 0 → fModel_unit_228 D cA b E o n sh Rf I13 L14 post x1 x2 x2) ∧ (x2 = 0 → fModel_unit_228 D cA b E o n sh Rf I13 L14 post x1 x2 78))) ∧ (¬ r12 = 0 → ((¬ (I13 o 47) = 7 → Ev (qGG D cA b E) mModel_isGood 0 (0, 0) 0 (lv_args 0 [.ref o]) [] (n, sh, Rf, I13, L14) (fun v τ => ∃ (r19 : Int32) (I20 : Nat → Nat → Int32) (L21 : Nat → Nat → Int64), v = some (.int r19) ∧ τ = (n, sh, Rf, I20, L21) ∧ ((¬ r19 = 0 → Ev (qGG D cA b E) mModel_pile 0 (0, 0) 0 (lv_args 0 [.ref o, .int 7, .int 0]) [] (n, sh, Rf, I20, L21) (fun v τ => ∃ (I25 : Nat → Nat → Int32) (L26 : Nat → Nat → Int64), v = none ∧ τ = (n, sh, Rf, I25, L26) ∧ ∀ I27 : Nat → Nat → Int32, q_u I25 o 47 ((I25 o 47) + 1) = I27 → Ev (qGG D cA b E) mModel_next 2 (0, 0) 0 (lv_args 0 [.ref o]) [] (n, sh, Rf, I27, L26) (fun v τ => ∃ (I30 : Nat → Nat → Int32) (L31 : Nat → Nat → Int64), v = none ∧ τ = (n, sh, Rf, I30, L31) ∧ post (some (.int 1)) (n, sh, Rf, I30, L31)))) ∧ (r19 = 0 → post (some (.int 1)) (n, sh, Rf, I20, L21))))) ∧ ((I13 o 47) = 7 → Ev (qGG D cA b E) mModel_wrong 1 (0, 0) 0 (lv_args 0 [.ref o]) [] (n, sh, Rf, I13, L14) (fun v τ => ∃ (I34 : Nat → Nat → Int32) (L35 : Nat → Nat → Int64), v = none ∧ τ = (n, sh, Rf, I34, L35) ∧ Ev (qGG D cA b E) mModel_isGood 0 (0, 0) 0 (lv_args 0 [.ref o]) [] (n, sh, Rf, I34, L35) (fun v τ => ∃ (r37 : Int32) (I38 : Nat → Nat → Int32) (L39 : Nat → Nat → Int64), v = some (.int r37) ∧ τ = (n, sh, Rf, I38, L39) ∧ ((¬ r37 = 0 → Ev (qGG D cA b E) mModel_pile 0 (0, 0) 0 (lv_args 0 [.ref o, .int 7, .int 0]) [] (n, sh, Rf, I38, L39) (fun v τ => ∃ (I43 : Nat → Nat → Int32) (L44 : Nat → Nat → Int64), v = none ∧ τ = (n, sh, Rf, I43, L44) ∧ ∀ I45 : Nat → Nat → Int32, q_u I43 o 47 ((I43 o 47) + 1) = I45 → Ev (qGG D cA b E) mModel_next 2 (0, 0) 0 (lv_args 0 [.ref o]) [] (n, sh, Rf, I45, L44) (fun v τ => ∃ (I48 : Nat → Nat → Int32) (L49 : Nat → Nat → Int64), v = none ∧ τ = (n, sh, Rf, I48, L49) ∧ post (some (.int 1)) (n, sh, Rf, I48, L49)))) ∧ (r37 = 0 → post (some (.int 1)) (n, sh, Rf, I38, L39))))))))))) ∧ (r6 = 0 → post (some (.int 1)) (n, sh, Rf, I7, L8)))))
set_option maxHeartbeats 4000000 in
set_option maxRecDepth 20000 in
theorem sModel_unit_140 {D : va_G} {cA : FieldType → ClassId} {b : Nat} {E : State → Prop} (o : Nat) (n : Nat) (sh : Nat → qC) (Rf : Nat → Nat → Option Nat) (I : Nat → Nat → Int32) (L : Nat → Nat → Int64) (post : Option Value → qS → Prop) (x1 : Int32) (x2 : Int32) (hok : q_ok (qGG D cA b E)) (hw : WfModel (qGG D cA b E) n sh Rf o) (H : fModel_unit_140 D cA b E o n sh Rf I L post x1 x2) : Ev (qGG D cA b E) mModel_unit 3 (0, 0) 140 [(0, .ref o), (1, .int x1), (2, .int x2)] [] (n, sh, Rf, I, L) post := by
  unfold fModel_unit_140 at H
  refine ev_aload_n dModel_unit_140 rfl ?_
  refine ev_callV [] [] (B' := (0, 0)) (B'' := (0, 0)) hok mmModel_wrong mk_Model_134 (ci := 12) rfl rfl (woModel hw) rfl (Nat.le_of_ble_eq_true rfl) rfl (Nat.le_of_ble_eq_true rfl) dModel_unit_141 rfl (by decide) H (fun v τ p1 => ?_)
  obtain ⟨I3, L4, rfl, rfl, H⟩ := p1
  refine ev_aload_n dModel_unit_144 rfl ?_
  refine ev_callV [] [] (B' := (0, 0)) (B'' := (0, 0)) hok mmModel_isGood mk_Model_126 (ci := 12) rfl rfl (woModel hw) rfl (Nat.le_of_ble_eq_true rfl) rfl (Nat.le_of_ble_eq_true rfl) dModel_unit_145 rfl (by decide) H (fun v τ p5 => ?_)
  obtain ⟨r6, I7, L8, rfl, rfl, H⟩ := p5
  refine ev_if_ne 153 dModel_unit_148 (by decide) (fun c9 => ?_) (fun c9 => ?_)
  · have H := H.1 c9
    refine ev_aload_n dModel_unit_153 rfl ?_
    refine ev_dup dModel_unit_154 rfl ?_
    refine ev_getI hok fk_Model_291 (woModel hw) (fun _ _ _ => rfl) dModel_unit_155 ?_
    refine ev_iconst (1) dModel_unit_158 (by decide) ?_
    refine ev_iadd dModel_unit_159 ?_
    refine ev_putI hok fk_Model_291 (woModel hw) (fun _ _ _ => rfl) rfl rfl dModel_unit_160 ?_
    generalize eI10 : q_u I7 o 46 ((I7 o 46) + 1) = I10
    have H := H I10 eI10
    refine ev_aload_n dModel_unit_163 rfl ?_
    refine ev_bipush (40) dModel_unit_164 (by decide) ?_
    refine ev_callV [.int 40] [] (B' := (0, 0)) (B'' := (0, 0)) hok mmModel_is mk_Model_193 (ci := 12) rfl rfl (woModel hw) rfl (Nat.le_of_ble_eq_true rfl) rfl (Nat.le_of_ble_eq_true rfl) dModel_unit_166 rfl (by decide) H (fun v τ p11 => ?_)
    obtain ⟨r12, I13, L14, rfl, rfl, H⟩ := p11
    refine ev_if_eq 217 dModel_unit_169 (by decide) (fun c15 => ?_) (fun c15 => ?_)
    · have H := H.1 c15
      refine ev_aload_n dModel_unit_217 rfl ?_
      refine ev_iload_n dModel_unit_218 rfl ?_
      refine ev_if_ne 227 dModel_unit_219 (by decide) (fun c16 => ?_) (fun c16 => ?_)
      · have H := H.1 c16
        refine ev_iload_n dModel_unit_227 rfl ?_
        exact ev_sub [(0, .ref o), (1, .int x1), (2, .int x2)] rfl (sModel_unit_228 o n sh Rf I13 L14 post x1 x2 x2 hok hw H)
      · have H := H.2 c16
        refine ev_bipush (78) dModel_unit_222 (by decide) ?_
        refine ev_goto 228 dModel_unit_224 (by decide) ?_
        exact ev_sub [(0, .ref o), (1, .int x1), (2, .int x2)] rfl (sModel_unit_228 o n sh Rf I13 L14 post x1 x2 78 hok hw H)
    · have H := H.2 c15
      refine ev_aload_n dModel_unit_172 rfl ?_
      refine ev_getI hok fk_Model_324 (woModel hw) (fun _ _ _ => rfl) dModel_unit_173 ?_
      refine ev_bipush (7) dModel_unit_176 (by decide) ?_
      refine ev_icmp_ne 185 dModel_unit_178 (by decide) (fun c17 => ?_) (fun c17 => ?_)
      · have H := H.1 c17
        refine ev_aload_n dModel_unit_185 rfl ?_
        refine ev_callV [] [] (B' := (0, 0)) (B'' := (0, 0)) hok mmModel_isGood mk_Model_126 (ci := 12) rfl rfl (woModel hw) rfl (Nat.le_of_ble_eq_true rfl) rfl (Nat.le_of_ble_eq_true rfl) dModel_unit_186 rfl (by decide) H (fun v τ p18 => ?_)
        obtain ⟨r19, I20, L21, rfl, rfl, H⟩ := p18
        refine ev_if_ne 194 dModel_unit_189 (by decide) (fun c22 => ?_) (fun c22 => ?_)
        · have H := H.1 c22
          refine ev_aload_n dModel_unit_194 rfl ?_
          refine ev_bipush (7) dModel_unit_195 (by decide) ?_
          refine ev_iconst (0) dModel_unit_197 (by decide) ?_
          refine ev_callV [.int 7, .int 0] [] (B' := (0, 0)) (B'' := (0, 0)) hok mmModel_pile mk_Model_327 (ci := 12) rfl rfl (woModel hw) rfl (Nat.le_of_ble_eq_true rfl) rfl (Nat.le_of_ble_eq_true rfl) dModel_unit_198 rfl (by decide) H (fun v τ p23 => ?_)
          obtain ⟨I25, L26, rfl, rfl, H⟩ := p23
          refine ev_aload_n dModel_unit_201 rfl ?_
          refine ev_dup dModel_unit_202 rfl ?_
          refine ev_getI hok fk_Model_324 (woModel hw) (fun _ _ _ => rfl) dModel_unit_203 ?_
          refine ev_iconst (1) dModel_unit_206 (by decide) ?_
          refine ev_iadd dModel_unit_207 ?_
          refine ev_putI hok fk_Model_324 (woModel hw) (fun _ _ _ => rfl) rfl rfl dModel_unit_208 ?_
          generalize eI27 : q_u I25 o 47 ((I25 o 47) + 1) = I27
          have H := H I27 eI27
          refine ev_aload_n dModel_unit_211 rfl ?_
          refine ev_callV [] [] (B' := (0, 0)) (B'' := (0, 0)) hok mmModel_next mk_Model_130 (ci := 12) rfl rfl (woModel hw) rfl (Nat.le_of_ble_eq_true rfl) rfl (Nat.le_of_ble_eq_true rfl) dModel_unit_212 rfl (by decide) H (fun v τ p28 => ?_)
          obtain ⟨I30, L31, rfl, rfl, H⟩ := p28
          refine ev_iconst (1) dModel_unit_215 (by decide) ?_
          exact ev_zret rfl (by decide) dModel_unit_216 H
        · have H := H.2 c22
          refine ev_iconst (1) dModel_unit_192 (by decide) ?_
          exact ev_zret rfl (by decide) dModel_unit_193 H
      · have H := H.2 c17
        refine ev_aload_n dModel_unit_181 rfl ?_
        refine ev_callV [] [] (B' := (0, 0)) (B'' := (0, 0)) hok mmModel_wrong mk_Model_134 (ci := 12) rfl rfl (woModel hw) rfl (Nat.le_of_ble_eq_true rfl) rfl (Nat.le_of_ble_eq_true rfl) dModel_unit_182 rfl (by decide) H (fun v τ p32 => ?_)
        obtain ⟨I34, L35, rfl, rfl, H⟩ := p32
        refine ev_aload_n dModel_unit_185 rfl ?_
        refine ev_callV [] [] (B' := (0, 0)) (B'' := (0, 0)) hok mmModel_isGood mk_Model_126 (ci := 12) rfl rfl (woModel hw) rfl (Nat.le_of_ble_eq_true rfl) rfl (Nat.le_of_ble_eq_true rfl) dModel_unit_186 rfl (by decide) H (fun v τ p36 => ?_)
        obtain ⟨r37, I38, L39, rfl, rfl, H⟩ := p36
        refine ev_if_ne 194 dModel_unit_189 (by decide) (fun c40 => ?_) (fun c40 => ?_)
        · have H := H.1 c40
          refine ev_aload_n dModel_unit_194 rfl ?_
          refine ev_bipush (7) dModel_unit_195 (by decide) ?_
          refine ev_iconst (0) dModel_unit_197 (by decide) ?_
          refine ev_callV [.int 7, .int 0] [] (B' := (0, 0)) (B'' := (0, 0)) hok mmModel_pile mk_Model_327 (ci := 12) rfl rfl (woModel hw) rfl (Nat.le_of_ble_eq_true rfl) rfl (Nat.le_of_ble_eq_true rfl) dModel_unit_198 rfl (by decide) H (fun v τ p41 => ?_)
          obtain ⟨I43, L44, rfl, rfl, H⟩ := p41
          refine ev_aload_n dModel_unit_201 rfl ?_
          refine ev_dup dModel_unit_202 rfl ?_
          refine ev_getI hok fk_Model_324 (woModel hw) (fun _ _ _ => rfl) dModel_unit_203 ?_
          refine ev_iconst (1) dModel_unit_206 (by decide) ?_
          refine ev_iadd dModel_unit_207 ?_
          refine ev_putI hok fk_Model_324 (woModel hw) (fun _ _ _ => rfl) rfl rfl dModel_unit_208 ?_
          generalize eI45 : q_u I43 o 47 ((I43 o 47) + 1) = I45
          have H := H I45 eI45
          refine ev_aload_n dModel_unit_211 rfl ?_
          refine ev_callV [] [] (B' := (0, 0)) (B'' := (0, 0)) hok mmModel_next mk_Model_130 (ci := 12) rfl rfl (woModel hw) rfl (Nat.le_of_ble_eq_true rfl) rfl (Nat.le_of_ble_eq_true rfl) dModel_unit_212 rfl (by decide) H (fun v τ p46 => ?_)
          obtain ⟨I48, L49, rfl, rfl, H⟩ := p46
          refine ev_iconst (1) dModel_unit_215 (by decide) ?_
          exact ev_zret rfl (by decide) dModel_unit_216 H
        · have H := H.2 c40
          refine ev_iconst (1) dModel_unit_192 (by decide) ?_
          exact ev_zret rfl (by decide) dModel_unit_193 H
  · have H := H.2 c9
    refine ev_iconst (1) dModel_unit_151 (by decide) ?_
    exact ev_zret rfl (by decide) dModel_unit_152 H
def fModel_unit_131 (D : va_G) (cA : FieldType → ClassId) (b : Nat) (E : State → Prop) (o : Nat) (n : Nat) (sh : Nat → qC) (Rf : Nat → Nat → Option Nat) (I : Nat → Nat → Int32) (L : Nat → Nat → Int64) (post : Option Value → qS → Prop) (x1 : Int32) (x2 : Int32) : Prop :=
  ((¬ (I o 46) = 100 → Ev (qGG D cA b E) mModel_isGood 0 (0, 0) 0 (lv_args 0 [.ref o]) [] (n, sh, Rf, I, L) (fun v τ => ∃ (r3 : Int32) (I4 : Nat → Nat → Int32) (L5 : Nat → Nat → Int64), v = some (.int r3) ∧ τ = (n, sh, Rf, I4, L5) ∧ ((¬ r3 = 0 → ∀ I7 : Nat → Nat → Int32, q_u I4 o 46 ((I4 o 46) + 1) = I7 → Ev (qGG D cA b E) mModel_is 1 (0, 0) 0 (lv_args 0 [.ref o, .int 40]) [] (n, sh, Rf, I7, L5) (fun v τ => ∃ (r9 : Int32) (I10 : Nat → Nat → Int32) (L11 : Nat → Nat → Int64), v = some (.int r9) ∧ τ = (n, sh, Rf, I10, L11) ∧ ((r9 = 0 → ((¬ x2 = 0 → fModel_unit_228 D cA b E o n sh Rf I10 L11 post x1 x2 x2) ∧ (x2 = 0 → fModel_unit_228 D cA b E o n sh Rf I10 L11 post x1 x2 78))) ∧ (¬ r9 = 0 → ((¬ (I10 o 47) = 7 → Ev (qGG D cA b E) mModel_isGood 0 (0, 0) 0 (lv_args 0 [.ref o]) [] (n, sh, Rf, I10, L11) (fun v τ => ∃ (r16 : Int32) (I17 : Nat → Nat → Int32) (L18 : Nat → Nat → Int64), v = some (.int r16) ∧ τ = (n, sh, Rf, I17, L18) ∧ ((¬ r16 = 0 → Ev (qGG D cA b E) mModel_pile 0 (0, 0) 0 (lv_args 0 [.ref o, .int 7, .int 0]) [] (n, sh, Rf, I17, L18) (fun v τ => ∃ (I22 : Nat → Nat → Int32) (L23 : Nat → Nat → Int64), v = none ∧ τ = (n, sh, Rf, I22, L23) ∧ ∀ I24 : Nat → Nat → Int32, q_u I22 o 47 ((I22 o 47) + 1) = I24 → Ev (qGG D cA b E) mModel_next 2 (0, 0) 0 (lv_args 0 [.ref o]) [] (n, sh, Rf, I24, L23) (fun v τ => ∃ (I27 : Nat → Nat → Int32) (L28 : Nat → Nat → Int64), v = none ∧ τ = (n, sh, Rf, I27, L28) ∧ post (some (.int 1)) (n, sh, Rf, I27, L28)))) ∧ (r16 = 0 → post (some (.int 1)) (n, sh, Rf, I17, L18))))) ∧ ((I10 o 47) = 7 → Ev (qGG D cA b E) mModel_wrong 1 (0, 0) 0 (lv_args 0 [.ref o]) [] (n, sh, Rf, I10, L11) (fun v τ => ∃ (I31 : Nat → Nat → Int32) (L32 : Nat → Nat → Int64), v = none ∧ τ = (n, sh, Rf, I31, L32) ∧ Ev (qGG D cA b E) mModel_isGood 0 (0, 0) 0 (lv_args 0 [.ref o]) [] (n, sh, Rf, I31, L32) (fun v τ => ∃ (r34 : Int32) (I35 : Nat → Nat → Int32) (L36 : Nat → Nat → Int64), v = some (.int r34) ∧ τ = (n, sh, Rf, I35, L36) ∧ ((¬ r34 = 0 → Ev (qGG D cA b E) mModel_pile 0 (0, 0) 0 (lv_args 0 [.ref o, .int 7, .int 0]) [] (n, sh, Rf, I35, L36) (fun v τ => ∃ (I40 : Nat → Nat → Int32) (L41 : Nat → Nat → Int64), v = none ∧ τ = (n, sh, Rf, I40, L41) ∧ ∀ I42 : Nat → Nat → Int32, q_u I40 o 47 ((I40 o 47) + 1) = I42 → Ev (qGG D cA b E) mModel_next 2 (0, 0) 0 (lv_args 0 [.ref o]) [] (n, sh, Rf, I42, L41) (fun v τ => ∃ (I45 : Nat → Nat → Int32) (L46 : Nat → Nat → Int64), v = none ∧ τ = (n, sh, Rf, I45, L46) ∧ post (some (.int 1)) (n, sh, Rf, I45, L46)))) ∧ (r34 = 0 → post (some (.int 1)) (n, sh, Rf, I35, L36))))))))))) ∧ (r3 = 0 → post (some (.int 1)) (n, sh, Rf, I4, L5))))) ∧ ((I o 46) = 100 → fModel_unit_140 D cA b E o n sh Rf I L post x1 x2))
set_option maxHeartbeats 4000000 in
set_option maxRecDepth 20000 in
theorem sModel_unit_131 {D : va_G} {cA : FieldType → ClassId} {b : Nat} {E : State → Prop} (o : Nat) (n : Nat) (sh : Nat → qC) (Rf : Nat → Nat → Option Nat) (I : Nat → Nat → Int32) (L : Nat → Nat → Int64) (post : Option Value → qS → Prop) (x1 : Int32) (x2 : Int32) (hok : q_ok (qGG D cA b E)) (hw : WfModel (qGG D cA b E) n sh Rf o) (H : fModel_unit_131 D cA b E o n sh Rf I L post x1 x2) : Ev (qGG D cA b E) mModel_unit 3 (0, 0) 131 [(0, .ref o), (1, .int x1), (2, .int x2)] [] (n, sh, Rf, I, L) post := by
  unfold fModel_unit_131 at H
  refine ev_aload_n dModel_unit_131 rfl ?_
  refine ev_getI hok fk_Model_291 (woModel hw) (fun _ _ _ => rfl) dModel_unit_132 ?_
  refine ev_bipush (100) dModel_unit_135 (by decide) ?_
  refine ev_icmp_ne 144 dModel_unit_137 (by decide) (fun c1 => ?_) (fun c1 => ?_)
  · have H := H.1 c1
    refine ev_aload_n dModel_unit_144 rfl ?_
    refine ev_callV [] [] (B' := (0, 0)) (B'' := (0, 0)) hok mmModel_isGood mk_Model_126 (ci := 12) rfl rfl (woModel hw) rfl (Nat.le_of_ble_eq_true rfl) rfl (Nat.le_of_ble_eq_true rfl) dModel_unit_145 rfl (by decide) H (fun v τ p2 => ?_)
    obtain ⟨r3, I4, L5, rfl, rfl, H⟩ := p2
    refine ev_if_ne 153 dModel_unit_148 (by decide) (fun c6 => ?_) (fun c6 => ?_)
    · have H := H.1 c6
      refine ev_aload_n dModel_unit_153 rfl ?_
      refine ev_dup dModel_unit_154 rfl ?_
      refine ev_getI hok fk_Model_291 (woModel hw) (fun _ _ _ => rfl) dModel_unit_155 ?_
      refine ev_iconst (1) dModel_unit_158 (by decide) ?_
      refine ev_iadd dModel_unit_159 ?_
      refine ev_putI hok fk_Model_291 (woModel hw) (fun _ _ _ => rfl) rfl rfl dModel_unit_160 ?_
      generalize eI7 : q_u I4 o 46 ((I4 o 46) + 1) = I7
      have H := H I7 eI7
      refine ev_aload_n dModel_unit_163 rfl ?_
      refine ev_bipush (40) dModel_unit_164 (by decide) ?_
      refine ev_callV [.int 40] [] (B' := (0, 0)) (B'' := (0, 0)) hok mmModel_is mk_Model_193 (ci := 12) rfl rfl (woModel hw) rfl (Nat.le_of_ble_eq_true rfl) rfl (Nat.le_of_ble_eq_true rfl) dModel_unit_166 rfl (by decide) H (fun v τ p8 => ?_)
      obtain ⟨r9, I10, L11, rfl, rfl, H⟩ := p8
      refine ev_if_eq 217 dModel_unit_169 (by decide) (fun c12 => ?_) (fun c12 => ?_)
      · have H := H.1 c12
        refine ev_aload_n dModel_unit_217 rfl ?_
        refine ev_iload_n dModel_unit_218 rfl ?_
        refine ev_if_ne 227 dModel_unit_219 (by decide) (fun c13 => ?_) (fun c13 => ?_)
        · have H := H.1 c13
          refine ev_iload_n dModel_unit_227 rfl ?_
          exact ev_sub [(0, .ref o), (1, .int x1), (2, .int x2)] rfl (sModel_unit_228 o n sh Rf I10 L11 post x1 x2 x2 hok hw H)
        · have H := H.2 c13
          refine ev_bipush (78) dModel_unit_222 (by decide) ?_
          refine ev_goto 228 dModel_unit_224 (by decide) ?_
          exact ev_sub [(0, .ref o), (1, .int x1), (2, .int x2)] rfl (sModel_unit_228 o n sh Rf I10 L11 post x1 x2 78 hok hw H)
      · have H := H.2 c12
        refine ev_aload_n dModel_unit_172 rfl ?_
        refine ev_getI hok fk_Model_324 (woModel hw) (fun _ _ _ => rfl) dModel_unit_173 ?_
        refine ev_bipush (7) dModel_unit_176 (by decide) ?_
        refine ev_icmp_ne 185 dModel_unit_178 (by decide) (fun c14 => ?_) (fun c14 => ?_)
        · have H := H.1 c14
          refine ev_aload_n dModel_unit_185 rfl ?_
          refine ev_callV [] [] (B' := (0, 0)) (B'' := (0, 0)) hok mmModel_isGood mk_Model_126 (ci := 12) rfl rfl (woModel hw) rfl (Nat.le_of_ble_eq_true rfl) rfl (Nat.le_of_ble_eq_true rfl) dModel_unit_186 rfl (by decide) H (fun v τ p15 => ?_)
          obtain ⟨r16, I17, L18, rfl, rfl, H⟩ := p15
          refine ev_if_ne 194 dModel_unit_189 (by decide) (fun c19 => ?_) (fun c19 => ?_)
          · have H := H.1 c19
            refine ev_aload_n dModel_unit_194 rfl ?_
            refine ev_bipush (7) dModel_unit_195 (by decide) ?_
            refine ev_iconst (0) dModel_unit_197 (by decide) ?_
            refine ev_callV [.int 7, .int 0] [] (B' := (0, 0)) (B'' := (0, 0)) hok mmModel_pile mk_Model_327 (ci := 12) rfl rfl (woModel hw) rfl (Nat.le_of_ble_eq_true rfl) rfl (Nat.le_of_ble_eq_true rfl) dModel_unit_198 rfl (by decide) H (fun v τ p20 => ?_)
            obtain ⟨I22, L23, rfl, rfl, H⟩ := p20
            refine ev_aload_n dModel_unit_201 rfl ?_
            refine ev_dup dModel_unit_202 rfl ?_
            refine ev_getI hok fk_Model_324 (woModel hw) (fun _ _ _ => rfl) dModel_unit_203 ?_
            refine ev_iconst (1) dModel_unit_206 (by decide) ?_
            refine ev_iadd dModel_unit_207 ?_
            refine ev_putI hok fk_Model_324 (woModel hw) (fun _ _ _ => rfl) rfl rfl dModel_unit_208 ?_
            generalize eI24 : q_u I22 o 47 ((I22 o 47) + 1) = I24
            have H := H I24 eI24
            refine ev_aload_n dModel_unit_211 rfl ?_
            refine ev_callV [] [] (B' := (0, 0)) (B'' := (0, 0)) hok mmModel_next mk_Model_130 (ci := 12) rfl rfl (woModel hw) rfl (Nat.le_of_ble_eq_true rfl) rfl (Nat.le_of_ble_eq_true rfl) dModel_unit_212 rfl (by decide) H (fun v τ p25 => ?_)
            obtain ⟨I27, L28, rfl, rfl, H⟩ := p25
            refine ev_iconst (1) dModel_unit_215 (by decide) ?_
            exact ev_zret rfl (by decide) dModel_unit_216 H
          · have H := H.2 c19
            refine ev_iconst (1) dModel_unit_192 (by decide) ?_
            exact ev_zret rfl (by decide) dModel_unit_193 H
        · have H := H.2 c14
          refine ev_aload_n dModel_unit_181 rfl ?_
          refine ev_callV [] [] (B' := (0, 0)) (B'' := (0, 0)) hok mmModel_wrong mk_Model_134 (ci := 12) rfl rfl (woModel hw) rfl (Nat.le_of_ble_eq_true rfl) rfl (Nat.le_of_ble_eq_true rfl) dModel_unit_182 rfl (by decide) H (fun v τ p29 => ?_)
          obtain ⟨I31, L32, rfl, rfl, H⟩ := p29
          refine ev_aload_n dModel_unit_185 rfl ?_
          refine ev_callV [] [] (B' := (0, 0)) (B'' := (0, 0)) hok mmModel_isGood mk_Model_126 (ci := 12) rfl rfl (woModel hw) rfl (Nat.le_of_ble_eq_true rfl) rfl (Nat.le_of_ble_eq_true rfl) dModel_unit_186 rfl (by decide) H (fun v τ p33 => ?_)
          obtain ⟨r34, I35, L36, rfl, rfl, H⟩ := p33
          refine ev_if_ne 194 dModel_unit_189 (by decide) (fun c37 => ?_) (fun c37 => ?_)
          · have H := H.1 c37
            refine ev_aload_n dModel_unit_194 rfl ?_
            refine ev_bipush (7) dModel_unit_195 (by decide) ?_
            refine ev_iconst (0) dModel_unit_197 (by decide) ?_
            refine ev_callV [.int 7, .int 0] [] (B' := (0, 0)) (B'' := (0, 0)) hok mmModel_pile mk_Model_327 (ci := 12) rfl rfl (woModel hw) rfl (Nat.le_of_ble_eq_true rfl) rfl (Nat.le_of_ble_eq_true rfl) dModel_unit_198 rfl (by decide) H (fun v τ p38 => ?_)
            obtain ⟨I40, L41, rfl, rfl, H⟩ := p38
            refine ev_aload_n dModel_unit_201 rfl ?_
            refine ev_dup dModel_unit_202 rfl ?_
            refine ev_getI hok fk_Model_324 (woModel hw) (fun _ _ _ => rfl) dModel_unit_203 ?_
            refine ev_iconst (1) dModel_unit_206 (by decide) ?_
            refine ev_iadd dModel_unit_207 ?_
            refine ev_putI hok fk_Model_324 (woModel hw) (fun _ _ _ => rfl) rfl rfl dModel_unit_208 ?_
            generalize eI42 : q_u I40 o 47 ((I40 o 47) + 1) = I42
            have H := H I42 eI42
            refine ev_aload_n dModel_unit_211 rfl ?_
            refine ev_callV [] [] (B' := (0, 0)) (B'' := (0, 0)) hok mmModel_next mk_Model_130 (ci := 12) rfl rfl (woModel hw) rfl (Nat.le_of_ble_eq_true rfl) rfl (Nat.le_of_ble_eq_true rfl) dModel_unit_212 rfl (by decide) H (fun v τ p43 => ?_)
            obtain ⟨I45, L46, rfl, rfl, H⟩ := p43
            refine ev_iconst (1) dModel_unit_215 (by decide) ?_
            exact ev_zret rfl (by decide) dModel_unit_216 H
          · have H := H.2 c37
            refine ev_iconst (1) dModel_unit_192 (by decide) ?_
            exact ev_zret rfl (by decide) dModel_unit_193 H
    · have H := H.2 c6
      refine ev_iconst (1) dModel_unit_151 (by decide) ?_
      exact ev_zret rfl (by decide) dModel_unit_152 H
  · have H := H.2 c1
    exact ev_sub [(0, .ref o), (1, .int x1), (2, .int x2)] rfl (sModel_unit_140 o n sh Rf I L post x1 x2 hok hw H)
def fModel_unit_96 (D : va_G) (cA : FieldType → ClassId) (b : Nat) (E : State → Prop) (o : Nat) (n : Nat) (sh : Nat → qC) (Rf : Nat → Nat → Option Nat) (I : Nat → Nat → Int32) (L : Nat → Nat → Int64) (post : Option Value → qS → Prop) (x1 : Int32) : Prop :=
  Ev (qGG D cA b E) mModel_wordHere 1 (0, 0) 0 (lv_args 0 [.ref o]) [] (n, sh, Rf, I, L) (fun v τ => ∃ (r2 : Int32) (I3 : Nat → Nat → Int32) (L4 : Nat → Nat → Int64), v = some (.int r2) ∧ τ = (n, sh, Rf, I3, L4) ∧ Ev (qGG D cA b E) mModel_isGood 0 (0, 0) 0 (lv_args 0 [.ref o]) [] (n, sh, Rf, I3, L4) (fun v τ => ∃ (r6 : Int32) (I7 : Nat → Nat → Int32) (L8 : Nat → Nat → Int64), v = some (.int r6) ∧ τ = (n, sh, Rf, I7, L8) ∧ ((¬ r6 = 0 → ((¬ r2 = 0 → fModel_unit_131 D cA b E o n sh Rf I7 L8 post x1 r2) ∧ (r2 = 0 → (((I7 o 8) = 4 → fModel_unit_131 D cA b E o n sh Rf I7 L8 post x1 r2) ∧ (¬ (I7 o 8) = 4 → Ev (qGG D cA b E) mModel_is 1 (0, 0) 0 (lv_args 0 [.ref o, .int 40]) [] (n, sh, Rf, I7, L8) (fun v τ => ∃ (r13 : Int32) (I14 : Nat → Nat → Int32) (L15 : Nat → Nat → Int64), v = some (.int r13) ∧ τ = (n, sh, Rf, I14, L15) ∧ ((r13 = 0 → fModel_unit_140 D cA b E o n sh Rf I14 L15 post x1 r2) ∧ (¬ r13 = 0 → fModel_unit_131 D cA b E o n sh Rf I14 L15 post x1 r2)))))))) ∧ (r6 = 0 → post (some (.int 1)) (n, sh, Rf, I7, L8)))))
set_option maxHeartbeats 4000000 in
set_option maxRecDepth 20000 in
theorem sModel_unit_96 {D : va_G} {cA : FieldType → ClassId} {b : Nat} {E : State → Prop} (o : Nat) (n : Nat) (sh : Nat → qC) (Rf : Nat → Nat → Option Nat) (I : Nat → Nat → Int32) (L : Nat → Nat → Int64) (post : Option Value → qS → Prop) (x1 : Int32) (hok : q_ok (qGG D cA b E)) (hw : WfModel (qGG D cA b E) n sh Rf o) (H : fModel_unit_96 D cA b E o n sh Rf I L post x1) : Ev (qGG D cA b E) mModel_unit 3 (0, 0) 96 [(0, .ref o), (1, .int x1)] [] (n, sh, Rf, I, L) post := by
  unfold fModel_unit_96 at H
  refine ev_aload_n dModel_unit_96 rfl ?_
  refine ev_callV [] [] (B' := (0, 0)) (B'' := (0, 0)) hok mmModel_wordHere mk_Model_336 (ci := 12) rfl rfl (woModel hw) rfl (Nat.le_of_ble_eq_true rfl) rfl (Nat.le_of_ble_eq_true rfl) dModel_unit_97 rfl (by decide) H (fun v τ p1 => ?_)
  obtain ⟨r2, I3, L4, rfl, rfl, H⟩ := p1
  refine ev_istore_n dModel_unit_100 (by decide) ?_
  refine ev_aload_n dModel_unit_101 rfl ?_
  refine ev_callV [] [] (B' := (0, 0)) (B'' := (0, 0)) hok mmModel_isGood mk_Model_126 (ci := 12) rfl rfl (woModel hw) rfl (Nat.le_of_ble_eq_true rfl) rfl (Nat.le_of_ble_eq_true rfl) dModel_unit_102 rfl (by decide) H (fun v τ p5 => ?_)
  obtain ⟨r6, I7, L8, rfl, rfl, H⟩ := p5
  refine ev_if_ne 110 dModel_unit_105 (by decide) (fun c9 => ?_) (fun c9 => ?_)
  · have H := H.1 c9
    refine ev_iload_n dModel_unit_110 rfl ?_
    refine ev_if_ne 131 dModel_unit_111 (by decide) (fun c10 => ?_) (fun c10 => ?_)
    · have H := H.1 c10
      exact ev_sub [(0, .ref o), (1, .int x1), (2, .int r2)] rfl (sModel_unit_131 o n sh Rf I7 L8 post x1 r2 hok hw H)
    · have H := H.2 c10
      refine ev_aload_n dModel_unit_114 rfl ?_
      refine ev_getI hok fk_Model_98 (woModel hw) (fun _ _ _ => rfl) dModel_unit_115 ?_
      refine ev_iconst (4) dModel_unit_118 (by decide) ?_
      refine ev_icmp_eq 131 dModel_unit_119 (by decide) (fun c11 => ?_) (fun c11 => ?_)
      · have H := H.1 c11
        exact ev_sub [(0, .ref o), (1, .int x1), (2, .int r2)] rfl (sModel_unit_131 o n sh Rf I7 L8 post x1 r2 hok hw H)
      · have H := H.2 c11
        refine ev_aload_n dModel_unit_122 rfl ?_
        refine ev_bipush (40) dModel_unit_123 (by decide) ?_
        refine ev_callV [.int 40] [] (B' := (0, 0)) (B'' := (0, 0)) hok mmModel_is mk_Model_193 (ci := 12) rfl rfl (woModel hw) rfl (Nat.le_of_ble_eq_true rfl) rfl (Nat.le_of_ble_eq_true rfl) dModel_unit_125 rfl (by decide) H (fun v τ p12 => ?_)
        obtain ⟨r13, I14, L15, rfl, rfl, H⟩ := p12
        refine ev_if_eq 140 dModel_unit_128 (by decide) (fun c16 => ?_) (fun c16 => ?_)
        · have H := H.1 c16
          exact ev_sub [(0, .ref o), (1, .int x1), (2, .int r2)] rfl (sModel_unit_140 o n sh Rf I14 L15 post x1 r2 hok hw H)
        · have H := H.2 c16
          exact ev_sub [(0, .ref o), (1, .int x1), (2, .int r2)] rfl (sModel_unit_131 o n sh Rf I14 L15 post x1 r2 hok hw H)
  · have H := H.2 c9
    refine ev_iconst (1) dModel_unit_108 (by decide) ?_
    exact ev_zret rfl (by decide) dModel_unit_109 H
def fModel_unit_36 (D : va_G) (cA : FieldType → ClassId) (b : Nat) (E : State → Prop) (o : Nat) (n : Nat) (sh : Nat → qC) (Rf : Nat → Nat → Option Nat) (I : Nat → Nat → Int32) (L : Nat → Nat → Int64) (post : Option Value → qS → Prop) (z0 : Int32) : Prop :=
  ((z0 = 0 → fModel_unit_96 D cA b E o n sh Rf I L post z0) ∧ (¬ z0 = 0 → Ev (qGG D cA b E) mModel_isWord 0 (0, 0) 0 (lv_args 0 [.ref o, .long 7237492]) [] (n, sh, Rf, I, L) (fun v τ => ∃ (r3 : Int32) (I4 : Nat → Nat → Int32) (L5 : Nat → Nat → Int64), v = some (.int r3) ∧ τ = (n, sh, Rf, I4, L5) ∧ ((r3 = 0 → fModel_unit_96 D cA b E o n sh Rf I4 L5 post z0) ∧ (¬ r3 = 0 → ((¬ (I4 o 47) = 7 → Ev (qGG D cA b E) mModel_isGood 0 (0, 0) 0 (lv_args 0 [.ref o]) [] (n, sh, Rf, I4, L5) (fun v τ => ∃ (r9 : Int32) (I10 : Nat → Nat → Int32) (L11 : Nat → Nat → Int64), v = some (.int r9) ∧ τ = (n, sh, Rf, I10, L11) ∧ ((¬ r9 = 0 → Ev (qGG D cA b E) mModel_pile 0 (0, 0) 0 (lv_args 0 [.ref o, .int 3, .int 126]) [] (n, sh, Rf, I10, L11) (fun v τ => ∃ (I15 : Nat → Nat → Int32) (L16 : Nat → Nat → Int64), v = none ∧ τ = (n, sh, Rf, I15, L16) ∧ ∀ I17 : Nat → Nat → Int32, q_u I15 o 47 ((I15 o 47) + 1) = I17 → Ev (qGG D cA b E) mModel_next 2 (0, 0) 0 (lv_args 0 [.ref o]) [] (n, sh, Rf, I17, L16) (fun v τ => ∃ (I20 : Nat → Nat → Int32) (L21 : Nat → Nat → Int64), v = none ∧ τ = (n, sh, Rf, I20, L21) ∧ post (some (.int 1)) (n, sh, Rf, I20, L21)))) ∧ (r9 = 0 → post (some (.int 1)) (n, sh, Rf, I10, L11))))) ∧ ((I4 o 47) = 7 → Ev (qGG D cA b E) mModel_wrong 1 (0, 0) 0 (lv_args 0 [.ref o]) [] (n, sh, Rf, I4, L5) (fun v τ => ∃ (I24 : Nat → Nat → Int32) (L25 : Nat → Nat → Int64), v = none ∧ τ = (n, sh, Rf, I24, L25) ∧ Ev (qGG D cA b E) mModel_isGood 0 (0, 0) 0 (lv_args 0 [.ref o]) [] (n, sh, Rf, I24, L25) (fun v τ => ∃ (r27 : Int32) (I28 : Nat → Nat → Int32) (L29 : Nat → Nat → Int64), v = some (.int r27) ∧ τ = (n, sh, Rf, I28, L29) ∧ ((¬ r27 = 0 → Ev (qGG D cA b E) mModel_pile 0 (0, 0) 0 (lv_args 0 [.ref o, .int 3, .int 126]) [] (n, sh, Rf, I28, L29) (fun v τ => ∃ (I33 : Nat → Nat → Int32) (L34 : Nat → Nat → Int64), v = none ∧ τ = (n, sh, Rf, I33, L34) ∧ ∀ I35 : Nat → Nat → Int32, q_u I33 o 47 ((I33 o 47) + 1) = I35 → Ev (qGG D cA b E) mModel_next 2 (0, 0) 0 (lv_args 0 [.ref o]) [] (n, sh, Rf, I35, L34) (fun v τ => ∃ (I38 : Nat → Nat → Int32) (L39 : Nat → Nat → Int64), v = none ∧ τ = (n, sh, Rf, I38, L39) ∧ post (some (.int 1)) (n, sh, Rf, I38, L39)))) ∧ (r27 = 0 → post (some (.int 1)) (n, sh, Rf, I28, L29))))))))))))
set_option maxHeartbeats 4000000 in
set_option maxRecDepth 20000 in
theorem sModel_unit_36 {D : va_G} {cA : FieldType → ClassId} {b : Nat} {E : State → Prop} (o : Nat) (n : Nat) (sh : Nat → qC) (Rf : Nat → Nat → Option Nat) (I : Nat → Nat → Int32) (L : Nat → Nat → Int64) (post : Option Value → qS → Prop) (z0 : Int32) (hok : q_ok (qGG D cA b E)) (hw : WfModel (qGG D cA b E) n sh Rf o) (H : fModel_unit_36 D cA b E o n sh Rf I L post z0) : Ev (qGG D cA b E) mModel_unit 3 (0, 0) 36 [(0, .ref o)] [.int z0] (n, sh, Rf, I, L) post := by
  unfold fModel_unit_36 at H
  refine ev_istore_n dModel_unit_36 (by decide) ?_
  refine ev_iload_n dModel_unit_37 rfl ?_
  refine ev_if_eq 96 dModel_unit_38 (by decide) (fun c1 => ?_) (fun c1 => ?_)
  · have H := H.1 c1
    exact ev_sub [(0, .ref o), (1, .int z0)] rfl (sModel_unit_96 o n sh Rf I L post z0 hok hw H)
  · have H := H.2 c1
    refine ev_aload_n dModel_unit_41 rfl ?_
    refine ev_ldc2 (7237492) dModel_unit_42 (q_t7 14 (by decide +kernel) rfl) ?_
    refine ev_callV [.long 7237492] [] (B' := (0, 0)) (B'' := (0, 0)) hok mmModel_isWord mk_Model_178 (ci := 12) rfl rfl (woModel hw) rfl (Nat.le_of_ble_eq_true rfl) rfl (Nat.le_of_ble_eq_true rfl) dModel_unit_45 rfl (by decide) H (fun v τ p2 => ?_)
    obtain ⟨r3, I4, L5, rfl, rfl, H⟩ := p2
    refine ev_if_eq 96 dModel_unit_48 (by decide) (fun c6 => ?_) (fun c6 => ?_)
    · have H := H.1 c6
      exact ev_sub [(0, .ref o), (1, .int z0)] rfl (sModel_unit_96 o n sh Rf I4 L5 post z0 hok hw H)
    · have H := H.2 c6
      refine ev_aload_n dModel_unit_51 rfl ?_
      refine ev_getI hok fk_Model_324 (woModel hw) (fun _ _ _ => rfl) dModel_unit_52 ?_
      refine ev_bipush (7) dModel_unit_55 (by decide) ?_
      refine ev_icmp_ne 64 dModel_unit_57 (by decide) (fun c7 => ?_) (fun c7 => ?_)
      · have H := H.1 c7
        refine ev_aload_n dModel_unit_64 rfl ?_
        refine ev_callV [] [] (B' := (0, 0)) (B'' := (0, 0)) hok mmModel_isGood mk_Model_126 (ci := 12) rfl rfl (woModel hw) rfl (Nat.le_of_ble_eq_true rfl) rfl (Nat.le_of_ble_eq_true rfl) dModel_unit_65 rfl (by decide) H (fun v τ p8 => ?_)
        obtain ⟨r9, I10, L11, rfl, rfl, H⟩ := p8
        refine ev_if_ne 73 dModel_unit_68 (by decide) (fun c12 => ?_) (fun c12 => ?_)
        · have H := H.1 c12
          refine ev_aload_n dModel_unit_73 rfl ?_
          refine ev_iconst (3) dModel_unit_74 (by decide) ?_
          refine ev_bipush (126) dModel_unit_75 (by decide) ?_
          refine ev_callV [.int 3, .int 126] [] (B' := (0, 0)) (B'' := (0, 0)) hok mmModel_pile mk_Model_327 (ci := 12) rfl rfl (woModel hw) rfl (Nat.le_of_ble_eq_true rfl) rfl (Nat.le_of_ble_eq_true rfl) dModel_unit_77 rfl (by decide) H (fun v τ p13 => ?_)
          obtain ⟨I15, L16, rfl, rfl, H⟩ := p13
          refine ev_aload_n dModel_unit_80 rfl ?_
          refine ev_dup dModel_unit_81 rfl ?_
          refine ev_getI hok fk_Model_324 (woModel hw) (fun _ _ _ => rfl) dModel_unit_82 ?_
          refine ev_iconst (1) dModel_unit_85 (by decide) ?_
          refine ev_iadd dModel_unit_86 ?_
          refine ev_putI hok fk_Model_324 (woModel hw) (fun _ _ _ => rfl) rfl rfl dModel_unit_87 ?_
          generalize eI17 : q_u I15 o 47 ((I15 o 47) + 1) = I17
          have H := H I17 eI17
          refine ev_aload_n dModel_unit_90 rfl ?_
          refine ev_callV [] [] (B' := (0, 0)) (B'' := (0, 0)) hok mmModel_next mk_Model_130 (ci := 12) rfl rfl (woModel hw) rfl (Nat.le_of_ble_eq_true rfl) rfl (Nat.le_of_ble_eq_true rfl) dModel_unit_91 rfl (by decide) H (fun v τ p18 => ?_)
          obtain ⟨I20, L21, rfl, rfl, H⟩ := p18
          refine ev_iconst (1) dModel_unit_94 (by decide) ?_
          exact ev_zret rfl (by decide) dModel_unit_95 H
        · have H := H.2 c12
          refine ev_iconst (1) dModel_unit_71 (by decide) ?_
          exact ev_zret rfl (by decide) dModel_unit_72 H
      · have H := H.2 c7
        refine ev_aload_n dModel_unit_60 rfl ?_
        refine ev_callV [] [] (B' := (0, 0)) (B'' := (0, 0)) hok mmModel_wrong mk_Model_134 (ci := 12) rfl rfl (woModel hw) rfl (Nat.le_of_ble_eq_true rfl) rfl (Nat.le_of_ble_eq_true rfl) dModel_unit_61 rfl (by decide) H (fun v τ p22 => ?_)
        obtain ⟨I24, L25, rfl, rfl, H⟩ := p22
        refine ev_aload_n dModel_unit_64 rfl ?_
        refine ev_callV [] [] (B' := (0, 0)) (B'' := (0, 0)) hok mmModel_isGood mk_Model_126 (ci := 12) rfl rfl (woModel hw) rfl (Nat.le_of_ble_eq_true rfl) rfl (Nat.le_of_ble_eq_true rfl) dModel_unit_65 rfl (by decide) H (fun v τ p26 => ?_)
        obtain ⟨r27, I28, L29, rfl, rfl, H⟩ := p26
        refine ev_if_ne 73 dModel_unit_68 (by decide) (fun c30 => ?_) (fun c30 => ?_)
        · have H := H.1 c30
          refine ev_aload_n dModel_unit_73 rfl ?_
          refine ev_iconst (3) dModel_unit_74 (by decide) ?_
          refine ev_bipush (126) dModel_unit_75 (by decide) ?_
          refine ev_callV [.int 3, .int 126] [] (B' := (0, 0)) (B'' := (0, 0)) hok mmModel_pile mk_Model_327 (ci := 12) rfl rfl (woModel hw) rfl (Nat.le_of_ble_eq_true rfl) rfl (Nat.le_of_ble_eq_true rfl) dModel_unit_77 rfl (by decide) H (fun v τ p31 => ?_)
          obtain ⟨I33, L34, rfl, rfl, H⟩ := p31
          refine ev_aload_n dModel_unit_80 rfl ?_
          refine ev_dup dModel_unit_81 rfl ?_
          refine ev_getI hok fk_Model_324 (woModel hw) (fun _ _ _ => rfl) dModel_unit_82 ?_
          refine ev_iconst (1) dModel_unit_85 (by decide) ?_
          refine ev_iadd dModel_unit_86 ?_
          refine ev_putI hok fk_Model_324 (woModel hw) (fun _ _ _ => rfl) rfl rfl dModel_unit_87 ?_
          generalize eI35 : q_u I33 o 47 ((I33 o 47) + 1) = I35
          have H := H I35 eI35
          refine ev_aload_n dModel_unit_90 rfl ?_
          refine ev_callV [] [] (B' := (0, 0)) (B'' := (0, 0)) hok mmModel_next mk_Model_130 (ci := 12) rfl rfl (woModel hw) rfl (Nat.le_of_ble_eq_true rfl) rfl (Nat.le_of_ble_eq_true rfl) dModel_unit_91 rfl (by decide) H (fun v τ p36 => ?_)
          obtain ⟨I38, L39, rfl, rfl, H⟩ := p36
          refine ev_iconst (1) dModel_unit_94 (by decide) ?_
          exact ev_zret rfl (by decide) dModel_unit_95 H
        · have H := H.2 c30
          refine ev_iconst (1) dModel_unit_71 (by decide) ?_
          exact ev_zret rfl (by decide) dModel_unit_72 H
def fModel_unit_31 (D : va_G) (cA : FieldType → ClassId) (b : Nat) (E : State → Prop) (o : Nat) (n : Nat) (sh : Nat → qC) (Rf : Nat → Nat → Option Nat) (I : Nat → Nat → Int32) (L : Nat → Nat → Int64) (post : Option Value → qS → Prop)  : Prop :=
  fModel_unit_36 D cA b E o n sh Rf I L post 1
set_option maxHeartbeats 4000000 in
set_option maxRecDepth 20000 in
theorem sModel_unit_31 {D : va_G} {cA : FieldType → ClassId} {b : Nat} {E : State → Prop} (o : Nat) (n : Nat) (sh : Nat → qC) (Rf : Nat → Nat → Option Nat) (I : Nat → Nat → Int32) (L : Nat → Nat → Int64) (post : Option Value → qS → Prop)  (hok : q_ok (qGG D cA b E)) (hw : WfModel (qGG D cA b E) n sh Rf o) (H : fModel_unit_31 D cA b E o n sh Rf I L post ) : Ev (qGG D cA b E) mModel_unit 3 (0, 0) 31 [(0, .ref o)] [] (n, sh, Rf, I, L) post := by
  unfold fModel_unit_31 at H
  refine ev_iconst (1) dModel_unit_31 (by decide) ?_
  refine ev_goto 36 dModel_unit_32 (by decide) ?_
  exact ev_sub [(0, .ref o)] rfl (sModel_unit_36 o n sh Rf I L post 1 hok hw H)
def fModel_unit_0 (D : va_G) (cA : FieldType → ClassId) (b : Nat) (E : State → Prop) (o : Nat) (n : Nat) (sh : Nat → qC) (Rf : Nat → Nat → Option Nat) (I : Nat → Nat → Int32) (L : Nat → Nat → Int64) (post : Option Value → qS → Prop)  : Prop :=
  vp_in ((I o 48) - 1) 80 ∧ (((I (o + 32) (((I o 48) - 1) : Int32).toNatClampNeg) ≤ 3 → fModel_unit_31 D cA b E o n sh Rf I L post ) ∧ (¬ (I (o + 32) (((I o 48) - 1) : Int32).toNatClampNeg) ≤ 3 → vp_in ((I o 48) - 1) 80 ∧ (((I (o + 32) (((I o 48) - 1) : Int32).toNatClampNeg) < 7 → fModel_unit_36 D cA b E o n sh Rf I L post 0) ∧ (¬ (I (o + 32) (((I o 48) - 1) : Int32).toNatClampNeg) < 7 → fModel_unit_31 D cA b E o n sh Rf I L post ))))
set_option maxHeartbeats 4000000 in
set_option maxRecDepth 20000 in
theorem sModel_unit_0 {D : va_G} {cA : FieldType → ClassId} {b : Nat} {E : State → Prop} (o : Nat) (n : Nat) (sh : Nat → qC) (Rf : Nat → Nat → Option Nat) (I : Nat → Nat → Int32) (L : Nat → Nat → Int64) (post : Option Value → qS → Prop)  (hok : q_ok (qGG D cA b E)) (hw : WfModel (qGG D cA b E) n sh Rf o) (H : fModel_unit_0 D cA b E o n sh Rf I L post ) : Ev (qGG D cA b E) mModel_unit 3 (0, 0) 0 [(0, .ref o)] [] (n, sh, Rf, I, L) post := by
  unfold fModel_unit_0 at H
  refine ev_aload_n dModel_unit_0 rfl ?_
  refine ev_getR hok fk_Model_315 (woModel hw) (fun _ _ _ => rfl) (wrModel_43 hw) dModel_unit_1 ?_
  refine ev_aload_n dModel_unit_4 rfl ?_
  refine ev_getI hok fk_Model_318 (woModel hw) (fun _ _ _ => rfl) dModel_unit_5 ?_
  refine ev_iconst (1) dModel_unit_8 (by decide) ?_
  refine ev_isub dModel_unit_9 ?_
  obtain ⟨h1, H⟩ := H
  refine ev_iald hok (waModel_43 hw) h1 dModel_unit_10 ?_
  refine ev_iconst (3) dModel_unit_11 (by decide) ?_
  refine ev_icmp_le 31 dModel_unit_12 (by decide) (fun c2 => ?_) (fun c2 => ?_)
  · have H := H.1 c2
    exact ev_sub [(0, .ref o)] rfl (sModel_unit_31 o n sh Rf I L post  hok hw H)
  · have H := H.2 c2
    refine ev_aload_n dModel_unit_15 rfl ?_
    refine ev_getR hok fk_Model_315 (woModel hw) (fun _ _ _ => rfl) (wrModel_43 hw) dModel_unit_16 ?_
    refine ev_aload_n dModel_unit_19 rfl ?_
    refine ev_getI hok fk_Model_318 (woModel hw) (fun _ _ _ => rfl) dModel_unit_20 ?_
    refine ev_iconst (1) dModel_unit_23 (by decide) ?_
    refine ev_isub dModel_unit_24 ?_
    obtain ⟨h3, H⟩ := H
    refine ev_iald hok (waModel_43 hw) h3 dModel_unit_25 ?_
    refine ev_bipush (7) dModel_unit_26 (by decide) ?_
    refine ev_icmp_lt 35 dModel_unit_28 (by decide) (fun c4 => ?_) (fun c4 => ?_)
    · have H := H.1 c4
      refine ev_iconst (0) dModel_unit_35 (by decide) ?_
      exact ev_sub [(0, .ref o)] rfl (sModel_unit_36 o n sh Rf I L post 0 hok hw H)
    · have H := H.2 c4
      exact ev_sub [(0, .ref o)] rfl (sModel_unit_31 o n sh Rf I L post  hok hw H)
def fModel_behind_108 (D : va_G) (cA : FieldType → ClassId) (b : Nat) (E : State → Prop) (o : Nat) (n : Nat) (sh : Nat → qC) (Rf : Nat → Nat → Option Nat) (I : Nat → Nat → Int32) (L : Nat → Nat → Int64) (post : Option Value → qS → Prop) (x1 : Int32) (x2 : Int32) : Prop :=
  ((x1 ≤ 0 → ((x2 = 0 → ∀ I3 : Nat → Nat → Int32, q_u I o 48 ((I o 48) - 1) = I3 → vp_in (I3 o 48) 80 ∧ ((¬ (I3 (o + 32) ((I3 o 48) : Int32).toNatClampNeg) = 7 → post (some (.int 0)) (n, sh, Rf, I3, L)) ∧ ((I3 (o + 32) ((I3 o 48) : Int32).toNatClampNeg) = 7 → ∀ I6 : Nat → Nat → Int32, q_u I3 o 47 ((I3 o 47) - 1) = I6 → Ev (qGG D cA b E) mModel_is 1 (0, 0) 0 (lv_args 0 [.ref o, .int 41]) [] (n, sh, Rf, I6, L) (fun v τ => ∃ (r8 : Int32) (I9 : Nat → Nat → Int32) (L10 : Nat → Nat → Int64), v = some (.int r8) ∧ τ = (n, sh, Rf, I9, L10) ∧ Ev (qGG D cA b E) mModel_must 3 (0, 0) 0 (lv_args 0 [.ref o, .int r8]) [] (n, sh, Rf, I9, L10) (fun v τ => ∃ (I13 : Nat → Nat → Int32) (L14 : Nat → Nat → Int64), v = none ∧ τ = (n, sh, Rf, I13, L14) ∧ post (some (.int 0)) (n, sh, Rf, I13, L14)))))) ∧ (¬ x2 = 0 → Ev (qGG D cA b E) mModel_wrong 1 (0, 0) 0 (lv_args 0 [.ref o]) [] (n, sh, Rf, I, L) (fun v τ => ∃ (I17 : Nat → Nat → Int32) (L18 : Nat → Nat → Int64), v = none ∧ τ = (n, sh, Rf, I17, L18) ∧ post (some (.int 1)) (n, sh, Rf, I17, L18))))) ∧ (¬ x1 ≤ 0 → ((¬ x2 = 0 → ((x2 = 0 → ∀ I21 : Nat → Nat → Int32, q_u I o 48 ((I o 48) - 1) = I21 → vp_in (I21 o 48) 80 ∧ ((¬ (I21 (o + 32) ((I21 o 48) : Int32).toNatClampNeg) = 7 → post (some (.int 0)) (n, sh, Rf, I21, L)) ∧ ((I21 (o + 32) ((I21 o 48) : Int32).toNatClampNeg) = 7 → ∀ I24 : Nat → Nat → Int32, q_u I21 o 47 ((I21 o 47) - 1) = I24 → Ev (qGG D cA b E) mModel_is 1 (0, 0) 0 (lv_args 0 [.ref o, .int 41]) [] (n, sh, Rf, I24, L) (fun v τ => ∃ (r26 : Int32) (I27 : Nat → Nat → Int32) (L28 : Nat → Nat → Int64), v = some (.int r26) ∧ τ = (n, sh, Rf, I27, L28) ∧ Ev (qGG D cA b E) mModel_must 3 (0, 0) 0 (lv_args 0 [.ref o, .int r26]) [] (n, sh, Rf, I27, L28) (fun v τ => ∃ (I31 : Nat → Nat → Int32) (L32 : Nat → Nat → Int64), v = none ∧ τ = (n, sh, Rf, I31, L32) ∧ post (some (.int 0)) (n, sh, Rf, I31, L32)))))) ∧ (¬ x2 = 0 → Ev (qGG D cA b E) mModel_wrong 1 (0, 0) 0 (lv_args 0 [.ref o]) [] (n, sh, Rf, I, L) (fun v τ => ∃ (I35 : Nat → Nat → Int32) (L36 : Nat → Nat → Int64), v = none ∧ τ = (n, sh, Rf, I35, L36) ∧ post (some (.int 1)) (n, sh, Rf, I35, L36))))) ∧ (x2 = 0 → ((¬ x1 = 2 → ((¬ x1 = 1 → Ev (qGG D cA b E) mModel_sign 0 (0, 0) 0 (lv_args 0 [.ref o, .int ((I o 6))]) [] (n, sh, Rf, I, L) (fun v τ => ∃ (r40 : Int32) (I41 : Nat → Nat → Int32) (L42 : Nat → Nat → Int64), v = some (.int r40) ∧ τ = (n, sh, Rf, I41, L42) ∧ Ev (qGG D cA b E) mModel_pile 0 (0, 0) 0 (lv_args 0 [.ref o, .int x1, .int r40]) [] (n, sh, Rf, I41, L42) (fun v τ => ∃ (I45 : Nat → Nat → Int32) (L46 : Nat → Nat → Int64), v = none ∧ τ = (n, sh, Rf, I45, L46) ∧ Ev (qGG D cA b E) mModel_next 2 (0, 0) 0 (lv_args 0 [.ref o]) [] (n, sh, Rf, I45, L46) (fun v τ => ∃ (I49 : Nat → Nat → Int32) (L50 : Nat → Nat → Int64), v = none ∧ τ = (n, sh, Rf, I49, L50) ∧ post (some (.int 1)) (n, sh, Rf, I49, L50))))) ∧ (x1 = 1 → Ev (qGG D cA b E) mModel_pile 0 (0, 0) 0 (lv_args 0 [.ref o, .int x1, .int 124]) [] (n, sh, Rf, I, L) (fun v τ => ∃ (I53 : Nat → Nat → Int32) (L54 : Nat → Nat → Int64), v = none ∧ τ = (n, sh, Rf, I53, L54) ∧ Ev (qGG D cA b E) mModel_next 2 (0, 0) 0 (lv_args 0 [.ref o]) [] (n, sh, Rf, I53, L54) (fun v τ => ∃ (I57 : Nat → Nat → Int32) (L58 : Nat → Nat → Int64), v = none ∧ τ = (n, sh, Rf, I57, L58) ∧ post (some (.int 1)) (n, sh, Rf, I57, L58)))))) ∧ (x1 = 2 → Ev (qGG D cA b E) mModel_pile 0 (0, 0) 0 (lv_args 0 [.ref o, .int x1, .int 38]) [] (n, sh, Rf, I, L) (fun v τ => ∃ (I61 : Nat → Nat → Int32) (L62 : Nat → Nat → Int64), v = none ∧ τ = (n, sh, Rf, I61, L62) ∧ Ev (qGG D cA b E) mModel_next 2 (0, 0) 0 (lv_args 0 [.ref o]) [] (n, sh, Rf, I61, L62) (fun v τ => ∃ (I65 : Nat → Nat → Int32) (L66 : Nat → Nat → Int64), v = none ∧ τ = (n, sh, Rf, I65, L66) ∧ post (some (.int 1)) (n, sh, Rf, I65, L66)))))))))
set_option maxHeartbeats 4000000 in
set_option maxRecDepth 20000 in
theorem sModel_behind_108 {D : va_G} {cA : FieldType → ClassId} {b : Nat} {E : State → Prop} (o : Nat) (n : Nat) (sh : Nat → qC) (Rf : Nat → Nat → Option Nat) (I : Nat → Nat → Int32) (L : Nat → Nat → Int64) (post : Option Value → qS → Prop) (x1 : Int32) (x2 : Int32) (hok : q_ok (qGG D cA b E)) (hw : WfModel (qGG D cA b E) n sh Rf o) (H : fModel_behind_108 D cA b E o n sh Rf I L post x1 x2) : Ev (qGG D cA b E) mModel_behind 4 (0, 0) 108 [(0, .ref o), (1, .int x1), (2, .int x2)] [] (n, sh, Rf, I, L) post := by
  unfold fModel_behind_108 at H
  refine ev_iload_n dModel_behind_108 rfl ?_
  refine ev_if_le 155 dModel_behind_109 (by decide) (fun c1 => ?_) (fun c1 => ?_)
  · have H := H.1 c1
    refine ev_iload_n dModel_behind_155 rfl ?_
    refine ev_if_eq 165 dModel_behind_156 (by decide) (fun c2 => ?_) (fun c2 => ?_)
    · have H := H.1 c2
      refine ev_aload_n dModel_behind_165 rfl ?_
      refine ev_dup dModel_behind_166 rfl ?_
      refine ev_getI hok fk_Model_318 (woModel hw) (fun _ _ _ => rfl) dModel_behind_167 ?_
      refine ev_iconst (1) dModel_behind_170 (by decide) ?_
      refine ev_isub dModel_behind_171 ?_
      refine ev_putI hok fk_Model_318 (woModel hw) (fun _ _ _ => rfl) rfl rfl dModel_behind_172 ?_
      generalize eI3 : q_u I o 48 ((I o 48) - 1) = I3
      have H := H I3 eI3
      refine ev_aload_n dModel_behind_175 rfl ?_
      refine ev_getR hok fk_Model_315 (woModel hw) (fun _ _ _ => rfl) (wrModel_43 hw) dModel_behind_176 ?_
      refine ev_aload_n dModel_behind_179 rfl ?_
      refine ev_getI hok fk_Model_318 (woModel hw) (fun _ _ _ => rfl) dModel_behind_180 ?_
      obtain ⟨h4, H⟩ := H
      refine ev_iald hok (waModel_43 hw) h4 dModel_behind_183 ?_
      refine ev_bipush (7) dModel_behind_184 (by decide) ?_
      refine ev_icmp_ne 209 dModel_behind_186 (by decide) (fun c5 => ?_) (fun c5 => ?_)
      · have H := H.1 c5
        refine ev_iconst (0) dModel_behind_209 (by decide) ?_
        exact ev_zret rfl (by decide) dModel_behind_210 H
      · have H := H.2 c5
        refine ev_aload_n dModel_behind_189 rfl ?_
        refine ev_dup dModel_behind_190 rfl ?_
        refine ev_getI hok fk_Model_324 (woModel hw) (fun _ _ _ => rfl) dModel_behind_191 ?_
        refine ev_iconst (1) dModel_behind_194 (by decide) ?_
        refine ev_isub dModel_behind_195 ?_
        refine ev_putI hok fk_Model_324 (woModel hw) (fun _ _ _ => rfl) rfl rfl dModel_behind_196 ?_
        generalize eI6 : q_u I3 o 47 ((I3 o 47) - 1) = I6
        have H := H I6 eI6
        refine ev_aload_n dModel_behind_199 rfl ?_
        refine ev_aload_n dModel_behind_200 rfl ?_
        refine ev_bipush (41) dModel_behind_201 (by decide) ?_
        refine ev_callV [.int 41] [.ref o] (B' := (0, 0)) (B'' := (0, 0)) hok mmModel_is mk_Model_193 (ci := 12) rfl rfl (woModel hw) rfl (Nat.le_of_ble_eq_true rfl) rfl (Nat.le_of_ble_eq_true rfl) dModel_behind_203 rfl (by decide) H (fun v τ p7 => ?_)
        obtain ⟨r8, I9, L10, rfl, rfl, H⟩ := p7
        refine ev_callV [.int r8] [] (B' := (0, 0)) (B'' := (0, 0)) hok mmModel_must mk_Model_196 (ci := 12) rfl rfl (woModel hw) rfl (Nat.le_of_ble_eq_true rfl) rfl (Nat.le_of_ble_eq_true rfl) dModel_behind_206 rfl (by decide) H (fun v τ p11 => ?_)
        obtain ⟨I13, L14, rfl, rfl, H⟩ := p11
        refine ev_iconst (0) dModel_behind_209 (by decide) ?_
        exact ev_zret rfl (by decide) dModel_behind_210 H
    · have H := H.2 c2
      refine ev_aload_n dModel_behind_159 rfl ?_
      refine ev_callV [] [] (B' := (0, 0)) (B'' := (0, 0)) hok mmModel_wrong mk_Model_134 (ci := 12) rfl rfl (woModel hw) rfl (Nat.le_of_ble_eq_true rfl) rfl (Nat.le_of_ble_eq_true rfl) dModel_behind_160 rfl (by decide) H (fun v τ p15 => ?_)
      obtain ⟨I17, L18, rfl, rfl, H⟩ := p15
      refine ev_iconst (1) dModel_behind_163 (by decide) ?_
      exact ev_zret rfl (by decide) dModel_behind_164 H
  · have H := H.2 c1
    refine ev_iload_n dModel_behind_112 rfl ?_
    refine ev_if_ne 155 dModel_behind_113 (by decide) (fun c19 => ?_) (fun c19 => ?_)
    · have H := H.1 c19
      refine ev_iload_n dModel_behind_155 rfl ?_
      refine ev_if_eq 165 dModel_behind_156 (by decide) (fun c20 => ?_) (fun c20 => ?_)
      · have H := H.1 c20
        refine ev_aload_n dModel_behind_165 rfl ?_
        refine ev_dup dModel_behind_166 rfl ?_
        refine ev_getI hok fk_Model_318 (woModel hw) (fun _ _ _ => rfl) dModel_behind_167 ?_
        refine ev_iconst (1) dModel_behind_170 (by decide) ?_
        refine ev_isub dModel_behind_171 ?_
        refine ev_putI hok fk_Model_318 (woModel hw) (fun _ _ _ => rfl) rfl rfl dModel_behind_172 ?_
        generalize eI21 : q_u I o 48 ((I o 48) - 1) = I21
        have H := H I21 eI21
        refine ev_aload_n dModel_behind_175 rfl ?_
        refine ev_getR hok fk_Model_315 (woModel hw) (fun _ _ _ => rfl) (wrModel_43 hw) dModel_behind_176 ?_
        refine ev_aload_n dModel_behind_179 rfl ?_
        refine ev_getI hok fk_Model_318 (woModel hw) (fun _ _ _ => rfl) dModel_behind_180 ?_
        obtain ⟨h22, H⟩ := H
        refine ev_iald hok (waModel_43 hw) h22 dModel_behind_183 ?_
        refine ev_bipush (7) dModel_behind_184 (by decide) ?_
        refine ev_icmp_ne 209 dModel_behind_186 (by decide) (fun c23 => ?_) (fun c23 => ?_)
        · have H := H.1 c23
          refine ev_iconst (0) dModel_behind_209 (by decide) ?_
          exact ev_zret rfl (by decide) dModel_behind_210 H
        · have H := H.2 c23
          refine ev_aload_n dModel_behind_189 rfl ?_
          refine ev_dup dModel_behind_190 rfl ?_
          refine ev_getI hok fk_Model_324 (woModel hw) (fun _ _ _ => rfl) dModel_behind_191 ?_
          refine ev_iconst (1) dModel_behind_194 (by decide) ?_
          refine ev_isub dModel_behind_195 ?_
          refine ev_putI hok fk_Model_324 (woModel hw) (fun _ _ _ => rfl) rfl rfl dModel_behind_196 ?_
          generalize eI24 : q_u I21 o 47 ((I21 o 47) - 1) = I24
          have H := H I24 eI24
          refine ev_aload_n dModel_behind_199 rfl ?_
          refine ev_aload_n dModel_behind_200 rfl ?_
          refine ev_bipush (41) dModel_behind_201 (by decide) ?_
          refine ev_callV [.int 41] [.ref o] (B' := (0, 0)) (B'' := (0, 0)) hok mmModel_is mk_Model_193 (ci := 12) rfl rfl (woModel hw) rfl (Nat.le_of_ble_eq_true rfl) rfl (Nat.le_of_ble_eq_true rfl) dModel_behind_203 rfl (by decide) H (fun v τ p25 => ?_)
          obtain ⟨r26, I27, L28, rfl, rfl, H⟩ := p25
          refine ev_callV [.int r26] [] (B' := (0, 0)) (B'' := (0, 0)) hok mmModel_must mk_Model_196 (ci := 12) rfl rfl (woModel hw) rfl (Nat.le_of_ble_eq_true rfl) rfl (Nat.le_of_ble_eq_true rfl) dModel_behind_206 rfl (by decide) H (fun v τ p29 => ?_)
          obtain ⟨I31, L32, rfl, rfl, H⟩ := p29
          refine ev_iconst (0) dModel_behind_209 (by decide) ?_
          exact ev_zret rfl (by decide) dModel_behind_210 H
      · have H := H.2 c20
        refine ev_aload_n dModel_behind_159 rfl ?_
        refine ev_callV [] [] (B' := (0, 0)) (B'' := (0, 0)) hok mmModel_wrong mk_Model_134 (ci := 12) rfl rfl (woModel hw) rfl (Nat.le_of_ble_eq_true rfl) rfl (Nat.le_of_ble_eq_true rfl) dModel_behind_160 rfl (by decide) H (fun v τ p33 => ?_)
        obtain ⟨I35, L36, rfl, rfl, H⟩ := p33
        refine ev_iconst (1) dModel_behind_163 (by decide) ?_
        exact ev_zret rfl (by decide) dModel_behind_164 H
    · have H := H.2 c19
      refine ev_aload_n dModel_behind_116 rfl ?_
      refine ev_iload_n dModel_behind_117 rfl ?_
      refine ev_iload_n dModel_behind_118 rfl ?_
      refine ev_iconst (2) dModel_behind_119 (by decide) ?_
      refine ev_icmp_ne 128 dModel_behind_120 (by decide) (fun c37 => ?_) (fun c37 => ?_)
      · have H := H.1 c37
        refine ev_iload_n dModel_behind_128 rfl ?_
        refine ev_iconst (1) dModel_behind_129 (by decide) ?_
        refine ev_icmp_ne 138 dModel_behind_130 (by decide) (fun c38 => ?_) (fun c38 => ?_)
        · have H := H.1 c38
          refine ev_aload_n dModel_behind_138 rfl ?_
          refine ev_aload_n dModel_behind_139 rfl ?_
          refine ev_getI hok fk_Model_95 (woModel hw) (fun _ _ _ => rfl) dModel_behind_140 ?_
          refine ev_callV [.int ((I o 6))] [.int x1, .ref o] (B' := (0, 0)) (B'' := (0, 0)) hok mmModel_sign mk_Model_81 (ci := 12) rfl rfl (woModel hw) rfl (Nat.le_of_ble_eq_true rfl) rfl (Nat.le_of_ble_eq_true rfl) dModel_behind_143 rfl (by decide) H (fun v τ p39 => ?_)
          obtain ⟨r40, I41, L42, rfl, rfl, H⟩ := p39
          refine ev_callV [.int x1, .int r40] [] (B' := (0, 0)) (B'' := (0, 0)) hok mmModel_pile mk_Model_327 (ci := 12) rfl rfl (woModel hw) rfl (Nat.le_of_ble_eq_true rfl) rfl (Nat.le_of_ble_eq_true rfl) dModel_behind_146 rfl (by decide) H (fun v τ p43 => ?_)
          obtain ⟨I45, L46, rfl, rfl, H⟩ := p43
          refine ev_aload_n dModel_behind_149 rfl ?_
          refine ev_callV [] [] (B' := (0, 0)) (B'' := (0, 0)) hok mmModel_next mk_Model_130 (ci := 12) rfl rfl (woModel hw) rfl (Nat.le_of_ble_eq_true rfl) rfl (Nat.le_of_ble_eq_true rfl) dModel_behind_150 rfl (by decide) H (fun v τ p47 => ?_)
          obtain ⟨I49, L50, rfl, rfl, H⟩ := p47
          refine ev_iconst (1) dModel_behind_153 (by decide) ?_
          exact ev_zret rfl (by decide) dModel_behind_154 H
        · have H := H.2 c38
          refine ev_bipush (124) dModel_behind_133 (by decide) ?_
          refine ev_goto 146 dModel_behind_135 (by decide) ?_
          refine ev_callV [.int x1, .int 124] [] (B' := (0, 0)) (B'' := (0, 0)) hok mmModel_pile mk_Model_327 (ci := 12) rfl rfl (woModel hw) rfl (Nat.le_of_ble_eq_true rfl) rfl (Nat.le_of_ble_eq_true rfl) dModel_behind_146 rfl (by decide) H (fun v τ p51 => ?_)
          obtain ⟨I53, L54, rfl, rfl, H⟩ := p51
          refine ev_aload_n dModel_behind_149 rfl ?_
          refine ev_callV [] [] (B' := (0, 0)) (B'' := (0, 0)) hok mmModel_next mk_Model_130 (ci := 12) rfl rfl (woModel hw) rfl (Nat.le_of_ble_eq_true rfl) rfl (Nat.le_of_ble_eq_true rfl) dModel_behind_150 rfl (by decide) H (fun v τ p55 => ?_)
          obtain ⟨I57, L58, rfl, rfl, H⟩ := p55
          refine ev_iconst (1) dModel_behind_153 (by decide) ?_
          exact ev_zret rfl (by decide) dModel_behind_154 H
      · have H := H.2 c37
        refine ev_bipush (38) dModel_behind_123 (by decide) ?_
        refine ev_goto 146 dModel_behind_125 (by decide) ?_
        refine ev_callV [.int x1, .int 38] [] (B' := (0, 0)) (B'' := (0, 0)) hok mmModel_pile mk_Model_327 (ci := 12) rfl rfl (woModel hw) rfl (Nat.le_of_ble_eq_true rfl) rfl (Nat.le_of_ble_eq_true rfl) dModel_behind_146 rfl (by decide) H (fun v τ p59 => ?_)
        obtain ⟨I61, L62, rfl, rfl, H⟩ := p59
        refine ev_aload_n dModel_behind_149 rfl ?_
        refine ev_callV [] [] (B' := (0, 0)) (B'' := (0, 0)) hok mmModel_next mk_Model_130 (ci := 12) rfl rfl (woModel hw) rfl (Nat.le_of_ble_eq_true rfl) rfl (Nat.le_of_ble_eq_true rfl) dModel_behind_150 rfl (by decide) H (fun v τ p63 => ?_)
        obtain ⟨I65, L66, rfl, rfl, H⟩ := p63
        refine ev_iconst (1) dModel_behind_153 (by decide) ?_
        exact ev_zret rfl (by decide) dModel_behind_154 H
def fModel_behind_91 (D : va_G) (cA : FieldType → ClassId) (b : Nat) (E : State → Prop) (o : Nat) (n : Nat) (sh : Nat → qC) (Rf : Nat → Nat → Option Nat) (I : Nat → Nat → Int32) (L : Nat → Nat → Int64) (post : Option Value → qS → Prop) (x1 : Int32) (x2 : Int32) : Prop :=
  vp_in (I o 48) 80 ∧ Ev (qGG D cA b E) mModel_step 0 (0, 0) 0 (lv_args 0 [.ref o, .int ((I (o + 33) ((I o 48) : Int32).toNatClampNeg)), .int 0]) [] (n, sh, Rf, I, L) (fun v τ => ∃ (I4 : Nat → Nat → Int32) (L5 : Nat → Nat → Int64), v = none ∧ τ = (n, sh, Rf, I4, L5) ∧ Ev (qGG D cA b E) mModel_behind 4 (0, 0) 23 [(0, .ref o), (1, .int x1), (2, .int x2)] [] (n, sh, Rf, I4, L5) post)
set_option maxHeartbeats 4000000 in
set_option maxRecDepth 20000 in
theorem sModel_behind_91 {D : va_G} {cA : FieldType → ClassId} {b : Nat} {E : State → Prop} (o : Nat) (n : Nat) (sh : Nat → qC) (Rf : Nat → Nat → Option Nat) (I : Nat → Nat → Int32) (L : Nat → Nat → Int64) (post : Option Value → qS → Prop) (x1 : Int32) (x2 : Int32) (hok : q_ok (qGG D cA b E)) (hw : WfModel (qGG D cA b E) n sh Rf o) (H : fModel_behind_91 D cA b E o n sh Rf I L post x1 x2) : Ev (qGG D cA b E) mModel_behind 4 (0, 0) 91 [(0, .ref o), (1, .int x1), (2, .int x2)] [] (n, sh, Rf, I, L) post := by
  unfold fModel_behind_91 at H
  refine ev_aload_n dModel_behind_91 rfl ?_
  refine ev_aload_n dModel_behind_92 rfl ?_
  refine ev_getR hok fk_Model_321 (woModel hw) (fun _ _ _ => rfl) (wrModel_50 hw) dModel_behind_93 ?_
  refine ev_aload_n dModel_behind_96 rfl ?_
  refine ev_getI hok fk_Model_318 (woModel hw) (fun _ _ _ => rfl) dModel_behind_97 ?_
  obtain ⟨h1, H⟩ := H
  refine ev_iald hok (waModel_50 hw) h1 dModel_behind_100 ?_
  refine ev_iconst (0) dModel_behind_101 (by decide) ?_
  refine ev_callV [.int ((I (o + 33) ((I o 48) : Int32).toNatClampNeg)), .int 0] [] (B' := (0, 0)) (B'' := (0, 0)) hok mmModel_step mk_Model_339 (ci := 12) rfl rfl (woModel hw) rfl (Nat.le_of_ble_eq_true rfl) rfl (Nat.le_of_ble_eq_true rfl) dModel_behind_102 rfl (by decide) H (fun v τ p2 => ?_)
  obtain ⟨I4, L5, rfl, rfl, H⟩ := p2
  refine ev_goto 23 dModel_behind_105 (by decide) ?_
  exact ev_sub [(0, .ref o), (1, .int x1), (2, .int x2)] rfl H
def fModel_behind_23 (D : va_G) (cA : FieldType → ClassId) (b : Nat) (E : State → Prop) (o : Nat) (n : Nat) (sh : Nat → qC) (Rf : Nat → Nat → Option Nat) (I : Nat → Nat → Int32) (L : Nat → Nat → Int64) (post : Option Value → qS → Prop) (x1 : Int32) (x2 : Int32) : Prop :=
  vp_in ((I o 48) - 1) 80 ∧ ((6 < (I (o + 32) (((I o 48) - 1) : Int32).toNatClampNeg) → fModel_behind_108 D cA b E o n sh Rf I L post x1 x2) ∧ (¬ 6 < (I (o + 32) (((I o 48) - 1) : Int32).toNatClampNeg) → vp_in ((I o 48) - 1) 80 ∧ (((I (o + 32) (((I o 48) - 1) : Int32).toNatClampNeg) < x1 → fModel_behind_108 D cA b E o n sh Rf I L post x1 x2) ∧ (¬ (I (o + 32) (((I o 48) - 1) : Int32).toNatClampNeg) < x1 → ((¬ x2 = 0 → fModel_behind_108 D cA b E o n sh Rf I L post x1 x2) ∧ (x2 = 0 → ∀ I6 : Nat → Nat → Int32, q_u I o 48 ((I o 48) - 1) = I6 → vp_in (I6 o 48) 80 ∧ ((¬ (I6 (o + 32) ((I6 o 48) : Int32).toNatClampNeg) = 3 → fModel_behind_91 D cA b E o n sh Rf I6 L post x1 x2) ∧ ((I6 (o + 32) ((I6 o 48) : Int32).toNatClampNeg) = 3 → ∀ I9 : Nat → Nat → Int32, q_u I6 o 47 ((I6 o 47) - 1) = I9 → fModel_behind_91 D cA b E o n sh Rf I9 L post x1 x2))))))))
set_option maxHeartbeats 4000000 in
set_option maxRecDepth 20000 in
theorem sModel_behind_23 {D : va_G} {cA : FieldType → ClassId} {b : Nat} {E : State → Prop} (o : Nat) (n : Nat) (sh : Nat → qC) (Rf : Nat → Nat → Option Nat) (I : Nat → Nat → Int32) (L : Nat → Nat → Int64) (post : Option Value → qS → Prop) (x1 : Int32) (x2 : Int32) (hok : q_ok (qGG D cA b E)) (hw : WfModel (qGG D cA b E) n sh Rf o) (H : fModel_behind_23 D cA b E o n sh Rf I L post x1 x2) : Ev (qGG D cA b E) mModel_behind 4 (0, 0) 23 [(0, .ref o), (1, .int x1), (2, .int x2)] [] (n, sh, Rf, I, L) post := by
  unfold fModel_behind_23 at H
  refine ev_aload_n dModel_behind_23 rfl ?_
  refine ev_getR hok fk_Model_315 (woModel hw) (fun _ _ _ => rfl) (wrModel_43 hw) dModel_behind_24 ?_
  refine ev_aload_n dModel_behind_27 rfl ?_
  refine ev_getI hok fk_Model_318 (woModel hw) (fun _ _ _ => rfl) dModel_behind_28 ?_
  refine ev_iconst (1) dModel_behind_31 (by decide) ?_
  refine ev_isub dModel_behind_32 ?_
  obtain ⟨h1, H⟩ := H
  refine ev_iald hok (waModel_43 hw) h1 dModel_behind_33 ?_
  refine ev_bipush (6) dModel_behind_34 (by decide) ?_
  refine ev_icmp_gt 108 dModel_behind_36 (by decide) (fun c2 => ?_) (fun c2 => ?_)
  · have H := H.1 c2
    exact ev_sub [(0, .ref o), (1, .int x1), (2, .int x2)] rfl (sModel_behind_108 o n sh Rf I L post x1 x2 hok hw H)
  · have H := H.2 c2
    refine ev_aload_n dModel_behind_39 rfl ?_
    refine ev_getR hok fk_Model_315 (woModel hw) (fun _ _ _ => rfl) (wrModel_43 hw) dModel_behind_40 ?_
    refine ev_aload_n dModel_behind_43 rfl ?_
    refine ev_getI hok fk_Model_318 (woModel hw) (fun _ _ _ => rfl) dModel_behind_44 ?_
    refine ev_iconst (1) dModel_behind_47 (by decide) ?_
    refine ev_isub dModel_behind_48 ?_
    obtain ⟨h3, H⟩ := H
    refine ev_iald hok (waModel_43 hw) h3 dModel_behind_49 ?_
    refine ev_iload_n dModel_behind_50 rfl ?_
    refine ev_icmp_lt 108 dModel_behind_51 (by decide) (fun c4 => ?_) (fun c4 => ?_)
    · have H := H.1 c4
      exact ev_sub [(0, .ref o), (1, .int x1), (2, .int x2)] rfl (sModel_behind_108 o n sh Rf I L post x1 x2 hok hw H)
    · have H := H.2 c4
      refine ev_iload_n dModel_behind_54 rfl ?_
      refine ev_if_ne 108 dModel_behind_55 (by decide) (fun c5 => ?_) (fun c5 => ?_)
      · have H := H.1 c5
        exact ev_sub [(0, .ref o), (1, .int x1), (2, .int x2)] rfl (sModel_behind_108 o n sh Rf I L post x1 x2 hok hw H)
      · have H := H.2 c5
        refine ev_aload_n dModel_behind_58 rfl ?_
        refine ev_dup dModel_behind_59 rfl ?_
        refine ev_getI hok fk_Model_318 (woModel hw) (fun _ _ _ => rfl) dModel_behind_60 ?_
        refine ev_iconst (1) dModel_behind_63 (by decide) ?_
        refine ev_isub dModel_behind_64 ?_
        refine ev_putI hok fk_Model_318 (woModel hw) (fun _ _ _ => rfl) rfl rfl dModel_behind_65 ?_
        generalize eI6 : q_u I o 48 ((I o 48) - 1) = I6
        have H := H I6 eI6
        refine ev_aload_n dModel_behind_68 rfl ?_
        refine ev_getR hok fk_Model_315 (woModel hw) (fun _ _ _ => rfl) (wrModel_43 hw) dModel_behind_69 ?_
        refine ev_aload_n dModel_behind_72 rfl ?_
        refine ev_getI hok fk_Model_318 (woModel hw) (fun _ _ _ => rfl) dModel_behind_73 ?_
        obtain ⟨h7, H⟩ := H
        refine ev_iald hok (waModel_43 hw) h7 dModel_behind_76 ?_
        refine ev_iconst (3) dModel_behind_77 (by decide) ?_
        refine ev_icmp_ne 91 dModel_behind_78 (by decide) (fun c8 => ?_) (fun c8 => ?_)
        · have H := H.1 c8
          exact ev_sub [(0, .ref o), (1, .int x1), (2, .int x2)] rfl (sModel_behind_91 o n sh Rf I6 L post x1 x2 hok hw H)
        · have H := H.2 c8
          refine ev_aload_n dModel_behind_81 rfl ?_
          refine ev_dup dModel_behind_82 rfl ?_
          refine ev_getI hok fk_Model_324 (woModel hw) (fun _ _ _ => rfl) dModel_behind_83 ?_
          refine ev_iconst (1) dModel_behind_86 (by decide) ?_
          refine ev_isub dModel_behind_87 ?_
          refine ev_putI hok fk_Model_324 (woModel hw) (fun _ _ _ => rfl) rfl rfl dModel_behind_88 ?_
          generalize eI9 : q_u I6 o 47 ((I6 o 47) - 1) = I9
          have H := H I9 eI9
          exact ev_sub [(0, .ref o), (1, .int x1), (2, .int x2)] rfl (sModel_behind_91 o n sh Rf I9 L post x1 x2 hok hw H)
def fModel_behind_22 (D : va_G) (cA : FieldType → ClassId) (b : Nat) (E : State → Prop) (o : Nat) (n : Nat) (sh : Nat → qC) (Rf : Nat → Nat → Option Nat) (I : Nat → Nat → Int32) (L : Nat → Nat → Int64) (post : Option Value → qS → Prop) (x1 : Int32) (z0 : Int32) : Prop :=
  Ev (qGG D cA b E) mModel_behind 4 (0, 0) 23 [(0, .ref o), (1, .int x1), (2, .int z0)] [] (n, sh, Rf, I, L) post
set_option maxHeartbeats 4000000 in
set_option maxRecDepth 20000 in
theorem sModel_behind_22 {D : va_G} {cA : FieldType → ClassId} {b : Nat} {E : State → Prop} (o : Nat) (n : Nat) (sh : Nat → qC) (Rf : Nat → Nat → Option Nat) (I : Nat → Nat → Int32) (L : Nat → Nat → Int64) (post : Option Value → qS → Prop) (x1 : Int32) (z0 : Int32) (hok : q_ok (qGG D cA b E)) (hw : WfModel (qGG D cA b E) n sh Rf o) (H : fModel_behind_22 D cA b E o n sh Rf I L post x1 z0) : Ev (qGG D cA b E) mModel_behind 4 (0, 0) 22 [(0, .ref o), (1, .int x1)] [.int z0] (n, sh, Rf, I, L) post := by
  unfold fModel_behind_22 at H
  refine ev_istore_n dModel_behind_22 (by decide) ?_
  exact ev_sub [(0, .ref o), (1, .int x1), (2, .int z0)] rfl H
def fModel_behind_21 (D : va_G) (cA : FieldType → ClassId) (b : Nat) (E : State → Prop) (o : Nat) (n : Nat) (sh : Nat → qC) (Rf : Nat → Nat → Option Nat) (I : Nat → Nat → Int32) (L : Nat → Nat → Int64) (post : Option Value → qS → Prop) (x1 : Int32) : Prop :=
  fModel_behind_22 D cA b E o n sh Rf I L post x1 0
set_option maxHeartbeats 4000000 in
set_option maxRecDepth 20000 in
theorem sModel_behind_21 {D : va_G} {cA : FieldType → ClassId} {b : Nat} {E : State → Prop} (o : Nat) (n : Nat) (sh : Nat → qC) (Rf : Nat → Nat → Option Nat) (I : Nat → Nat → Int32) (L : Nat → Nat → Int64) (post : Option Value → qS → Prop) (x1 : Int32) (hok : q_ok (qGG D cA b E)) (hw : WfModel (qGG D cA b E) n sh Rf o) (H : fModel_behind_21 D cA b E o n sh Rf I L post x1) : Ev (qGG D cA b E) mModel_behind 4 (0, 0) 21 [(0, .ref o), (1, .int x1)] [] (n, sh, Rf, I, L) post := by
  unfold fModel_behind_21 at H
  refine ev_iconst (0) dModel_behind_21 (by decide) ?_
  exact ev_sub [(0, .ref o), (1, .int x1)] rfl (sModel_behind_22 o n sh Rf I L post x1 0 hok hw H)
def fModel_behind_0 (D : va_G) (cA : FieldType → ClassId) (b : Nat) (E : State → Prop) (o : Nat) (n : Nat) (sh : Nat → qC) (Rf : Nat → Nat → Option Nat) (I : Nat → Nat → Int32) (L : Nat → Nat → Int64) (post : Option Value → qS → Prop)  : Prop :=
  Ev (qGG D cA b E) mModel_rankHere 2 (0, 0) 0 (lv_args 0 [.ref o]) [] (n, sh, Rf, I, L) (fun v τ => ∃ (r2 : Int32) (I3 : Nat → Nat → Int32) (L4 : Nat → Nat → Int64), v = some (.int r2) ∧ τ = (n, sh, Rf, I3, L4) ∧ ((¬ r2 = 4 → fModel_behind_21 D cA b E o n sh Rf I3 L4 post r2) ∧ (r2 = 4 → Ev (qGG D cA b E) mModel_isCompared 0 (0, 0) 0 (lv_args 0 [.ref o]) [] (n, sh, Rf, I3, L4) (fun v τ => ∃ (r7 : Int32) (I8 : Nat → Nat → Int32) (L9 : Nat → Nat → Int64), v = some (.int r7) ∧ τ = (n, sh, Rf, I8, L9) ∧ ((r7 = 0 → fModel_behind_21 D cA b E o n sh Rf I8 L9 post r2) ∧ (¬ r7 = 0 → fModel_behind_22 D cA b E o n sh Rf I8 L9 post r2 1))))))
set_option maxHeartbeats 4000000 in
set_option maxRecDepth 20000 in
theorem sModel_behind_0 {D : va_G} {cA : FieldType → ClassId} {b : Nat} {E : State → Prop} (o : Nat) (n : Nat) (sh : Nat → qC) (Rf : Nat → Nat → Option Nat) (I : Nat → Nat → Int32) (L : Nat → Nat → Int64) (post : Option Value → qS → Prop)  (hok : q_ok (qGG D cA b E)) (hw : WfModel (qGG D cA b E) n sh Rf o) (H : fModel_behind_0 D cA b E o n sh Rf I L post ) : Ev (qGG D cA b E) mModel_behind 4 (0, 0) 0 [(0, .ref o)] [] (n, sh, Rf, I, L) post := by
  unfold fModel_behind_0 at H
  refine ev_aload_n dModel_behind_0 rfl ?_
  refine ev_callV [] [] (B' := (0, 0)) (B'' := (0, 0)) hok mmModel_rankHere mk_Model_342 (ci := 12) rfl rfl (woModel hw) rfl (Nat.le_of_ble_eq_true rfl) rfl (Nat.le_of_ble_eq_true rfl) dModel_behind_1 rfl (by decide) H (fun v τ p1 => ?_)
  obtain ⟨r2, I3, L4, rfl, rfl, H⟩ := p1
  refine ev_istore_n dModel_behind_4 (by decide) ?_
  refine ev_iload_n dModel_behind_5 rfl ?_
  refine ev_iconst (4) dModel_behind_6 (by decide) ?_
  refine ev_icmp_ne 21 dModel_behind_7 (by decide) (fun c5 => ?_) (fun c5 => ?_)
  · have H := H.1 c5
    exact ev_sub [(0, .ref o), (1, .int r2)] rfl (sModel_behind_21 o n sh Rf I3 L4 post r2 hok hw H)
  · have H := H.2 c5
    refine ev_aload_n dModel_behind_10 rfl ?_
    refine ev_callV [] [] (B' := (0, 0)) (B'' := (0, 0)) hok mmModel_isCompared mk_Model_345 (ci := 12) rfl rfl (woModel hw) rfl (Nat.le_of_ble_eq_true rfl) rfl (Nat.le_of_ble_eq_true rfl) dModel_behind_11 rfl (by decide) H (fun v τ p6 => ?_)
    obtain ⟨r7, I8, L9, rfl, rfl, H⟩ := p6
    refine ev_if_eq 21 dModel_behind_14 (by decide) (fun c10 => ?_) (fun c10 => ?_)
    · have H := H.1 c10
      exact ev_sub [(0, .ref o), (1, .int r2)] rfl (sModel_behind_21 o n sh Rf I8 L9 post r2 hok hw H)
    · have H := H.2 c10
      refine ev_iconst (1) dModel_behind_17 (by decide) ?_
      refine ev_goto 22 dModel_behind_18 (by decide) ?_
      exact ev_sub [(0, .ref o), (1, .int r2)] rfl (sModel_behind_22 o n sh Rf I8 L9 post r2 1 hok hw H)
