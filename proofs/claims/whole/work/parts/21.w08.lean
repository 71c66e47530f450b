/-! Walks of the reference: by program. -/
def fModel_goOn_0 (D : va_G) (cA : FieldType → ClassId) (b : Nat) (E : State → Prop) (o : Nat) (n : Nat) (sh : Nat → qC) (Rf : Nat → Nat → Option Nat) (I : Nat → Nat → Int32) (L : Nat → Nat → Int64) (post : Option Value → qS → Prop)  : Prop :=
  ∀ I1 : Nat → Nat → Int32, q_u I o 57 (I o 136) = I1 → ∀ I2 : Nat → Nat → Int32, q_u I1 o 106 5 = I2 → Ev (qGG D cA b E) mModel_tellMonth 6 (0, 0) 0 (lv_args 0 [.ref o]) [] (n, sh, Rf, I2, L) (fun v τ => ∃ (I5 : Nat → Nat → Int32) (L6 : Nat → Nat → Int64), v = none ∧ τ = (n, sh, Rf, I5, L6) ∧ Ev (qGG D cA b E) mModel_fillTowns 1 (0, 0) 0 (lv_args 0 [.ref o]) [] (n, sh, Rf, I5, L6) (fun v τ => ∃ (I9 : Nat → Nat → Int32) (L10 : Nat → Nat → Int64), v = none ∧ τ = (n, sh, Rf, I9, L10) ∧ post none (n, sh, Rf, I9, L10)))
set_option maxHeartbeats 4000000 in
set_option maxRecDepth 20000 in
theorem sModel_goOn_0 {D : va_G} {cA : FieldType → ClassId} {b : Nat} {E : State → Prop} (o : Nat) (n : Nat) (sh : Nat → qC) (Rf : Nat → Nat → Option Nat) (I : Nat → Nat → Int32) (L : Nat → Nat → Int64) (post : Option Value → qS → Prop)  (hok : q_ok (qGG D cA b E)) (hw : WfModel (qGG D cA b E) n sh Rf o) (H : fModel_goOn_0 D cA b E o n sh Rf I L post ) : Ev (qGG D cA b E) mModel_goOn 7 (0, 0) 0 [(0, .ref o)] [] (n, sh, Rf, I, L) post := by
  unfold fModel_goOn_0 at H
  refine ev_aload_n dModel_goOn_0 rfl ?_
  refine ev_aload_n dModel_goOn_1 rfl ?_
  refine ev_getI hok fk_Model_766 (woModel hw) (fun _ _ _ => rfl) dModel_goOn_2 ?_
  refine ev_putI hok fk_Model_348 (woModel hw) (fun _ _ _ => rfl) rfl rfl dModel_goOn_5 ?_
  generalize eI1 : q_u I o 57 (I o 136) = I1
  have H := H I1 eI1
  refine ev_aload_n dModel_goOn_8 rfl ?_
  refine ev_iconst (5) dModel_goOn_9 (by decide) ?_
  refine ev_putI hok fk_Model_516 (woModel hw) (fun _ _ _ => rfl) rfl rfl dModel_goOn_10 ?_
  generalize eI2 : q_u I1 o 106 5 = I2
  have H := H I2 eI2
  refine ev_aload_n dModel_goOn_13 rfl ?_
  refine ev_callV [] [] (B' := (0, 0)) (B'' := (0, 0)) hok mmModel_tellMonth mk_Model_715 (ci := 12) rfl rfl (woModel hw) rfl (Nat.le_of_ble_eq_true rfl) rfl (Nat.le_of_ble_eq_true rfl) dModel_goOn_14 rfl (by decide) H (fun v τ p3 => ?_)
  obtain ⟨I5, L6, rfl, rfl, H⟩ := p3
  refine ev_aload_n dModel_goOn_17 rfl ?_
  refine ev_callV [] [] (B' := (0, 0)) (B'' := (0, 0)) hok mmModel_fillTowns mk_Model_730 (ci := 12) rfl rfl (woModel hw) rfl (Nat.le_of_ble_eq_true rfl) rfl (Nat.le_of_ble_eq_true rfl) dModel_goOn_18 rfl (by decide) H (fun v τ p7 => ?_)
  obtain ⟨I9, L10, rfl, rfl, H⟩ := p7
  exact ev_vret rfl dModel_goOn_21 H
def fModel_land_59 (D : va_G) (cA : FieldType → ClassId) (b : Nat) (E : State → Prop) (o : Nat) (n : Nat) (sh : Nat → qC) (Rf : Nat → Nat → Option Nat) (I : Nat → Nat → Int32) (L : Nat → Nat → Int64) (post : Option Value → qS → Prop)  : Prop :=
  Ev (qGG D cA b E) mModel_isGood 0 (0, 0) 0 (lv_args 0 [.ref o]) [] (n, sh, Rf, I, L) (fun v τ => ∃ (r2 : Int32) (I3 : Nat → Nat → Int32) (L4 : Nat → Nat → Int64), v = some (.int r2) ∧ τ = (n, sh, Rf, I3, L4) ∧ ((r2 = 0 → Ev (qGG D cA b E) mModel_isGood 0 (0, 0) 0 (lv_args 0 [.ref o]) [] (n, sh, Rf, I3, L4) (fun v τ => ∃ (r7 : Int32) (I8 : Nat → Nat → Int32) (L9 : Nat → Nat → Int64), v = some (.int r7) ∧ τ = (n, sh, Rf, I8, L9) ∧ ((¬ r7 = 0 → ∀ I11 : Nat → Nat → Int32, q_u I8 o 34 (I8 o 35) = I11 → ∀ I12 : Nat → Nat → Int32, q_u I11 o 67 0 = I12 → ∀ I13 : Nat → Nat → Int32, q_u I12 o 135 0 = I13 → Ev (qGG D cA b E) mModel_measure 0 (0, 0) 0 (lv_args 0 [.ref o]) [] (n, sh, Rf, I13, L9) (fun v τ => ∃ (I16 : Nat → Nat → Int32) (L17 : Nat → Nat → Int64), v = none ∧ τ = (n, sh, Rf, I16, L17) ∧ vp_in (I16 o 34) 2 ∧ vp_in (I16 o 34) 2 ∧ vp_in (I16 o 34) 2 ∧ vp_in (I16 o 34) 2 ∧ post (some (.int (((((I16 (o + 6) ((I16 o 34) : Int32).toNatClampNeg) + (I16 (o + 7) ((I16 o 34) : Int32).toNatClampNeg)) + (I16 (o + 8) ((I16 o 34) : Int32).toNatClampNeg)) + (I16 (o + 9) ((I16 o 34) : Int32).toNatClampNeg))))) (n, sh, Rf, I16, L17))) ∧ (r7 = 0 → post (some (.int ((-1)))) (n, sh, Rf, I8, L9))))) ∧ (¬ r2 = 0 → (((I3 o 8) = 0 → Ev (qGG D cA b E) mModel_isGood 0 (0, 0) 0 (lv_args 0 [.ref o]) [] (n, sh, Rf, I3, L4) (fun v τ => ∃ (r24 : Int32) (I25 : Nat → Nat → Int32) (L26 : Nat → Nat → Int64), v = some (.int r24) ∧ τ = (n, sh, Rf, I25, L26) ∧ ((¬ r24 = 0 → ∀ I28 : Nat → Nat → Int32, q_u I25 o 34 (I25 o 35) = I28 → ∀ I29 : Nat → Nat → Int32, q_u I28 o 67 0 = I29 → ∀ I30 : Nat → Nat → Int32, q_u I29 o 135 0 = I30 → Ev (qGG D cA b E) mModel_measure 0 (0, 0) 0 (lv_args 0 [.ref o]) [] (n, sh, Rf, I30, L26) (fun v τ => ∃ (I33 : Nat → Nat → Int32) (L34 : Nat → Nat → Int64), v = none ∧ τ = (n, sh, Rf, I33, L34) ∧ vp_in (I33 o 34) 2 ∧ vp_in (I33 o 34) 2 ∧ vp_in (I33 o 34) 2 ∧ vp_in (I33 o 34) 2 ∧ post (some (.int (((((I33 (o + 6) ((I33 o 34) : Int32).toNatClampNeg) + (I33 (o + 7) ((I33 o 34) : Int32).toNatClampNeg)) + (I33 (o + 8) ((I33 o 34) : Int32).toNatClampNeg)) + (I33 (o + 9) ((I33 o 34) : Int32).toNatClampNeg))))) (n, sh, Rf, I33, L34))) ∧ (r24 = 0 → post (some (.int ((-1)))) (n, sh, Rf, I25, L26))))) ∧ (¬ (I3 o 8) = 0 → Ev (qGG D cA b E) mModel_readLine 6 (0, 0) 0 (lv_args 0 [.ref o]) [] (n, sh, Rf, I3, L4) (fun v τ => ∃ (I41 : Nat → Nat → Int32) (L42 : Nat → Nat → Int64), v = none ∧ τ = (n, sh, Rf, I41, L42) ∧ Ev (qGG D cA b E) mModel_land 7 (0, 0) 59 [(0, .ref o)] [] (n, sh, Rf, I41, L42) post))))))
set_option maxHeartbeats 4000000 in
set_option maxRecDepth 20000 in
theorem sModel_land_59 {D : va_G} {cA : FieldType → ClassId} {b : Nat} {E : State → Prop} (o : Nat) (n : Nat) (sh : Nat → qC) (Rf : Nat → Nat → Option Nat) (I : Nat → Nat → Int32) (L : Nat → Nat → Int64) (post : Option Value → qS → Prop)  (hok : q_ok (qGG D cA b E)) (hw : WfModel (qGG D cA b E) n sh Rf o) (H : fModel_land_59 D cA b E o n sh Rf I L post ) : Ev (qGG D cA b E) mModel_land 7 (0, 0) 59 [(0, .ref o)] [] (n, sh, Rf, I, L) post := by
  unfold fModel_land_59 at H
  refine ev_aload_n dModel_land_59 rfl ?_
  refine ev_callV [] [] (B' := (0, 0)) (B'' := (0, 0)) hok mmModel_isGood mk_Model_126 (ci := 12) rfl rfl (woModel hw) rfl (Nat.le_of_ble_eq_true rfl) rfl (Nat.le_of_ble_eq_true rfl) dModel_land_60 rfl (by decide) H (fun v τ p1 => ?_)
  obtain ⟨r2, I3, L4, rfl, rfl, H⟩ := p1
  refine ev_if_eq 80 dModel_land_63 (by decide) (fun c5 => ?_) (fun c5 => ?_)
  · have H := H.1 c5
    refine ev_aload_n dModel_land_80 rfl ?_
    refine ev_callV [] [] (B' := (0, 0)) (B'' := (0, 0)) hok mmModel_isGood mk_Model_126 (ci := 12) rfl rfl (woModel hw) rfl (Nat.le_of_ble_eq_true rfl) rfl (Nat.le_of_ble_eq_true rfl) dModel_land_81 rfl (by decide) H (fun v τ p6 => ?_)
    obtain ⟨r7, I8, L9, rfl, rfl, H⟩ := p6
    refine ev_if_ne 89 dModel_land_84 (by decide) (fun c10 => ?_) (fun c10 => ?_)
    · have H := H.1 c10
      refine ev_aload_n dModel_land_89 rfl ?_
      refine ev_aload_n dModel_land_90 rfl ?_
      refine ev_getI hok fk_Model_150 (woModel hw) (fun _ _ _ => rfl) dModel_land_91 ?_
      refine ev_putI hok fk_Model_147 (woModel hw) (fun _ _ _ => rfl) rfl rfl dModel_land_94 ?_
      generalize eI11 : q_u I8 o 34 (I8 o 35) = I11
      have H := H I11 eI11
      refine ev_aload_n dModel_land_97 rfl ?_
      refine ev_iconst (0) dModel_land_98 (by decide) ?_
      refine ev_putI hok fk_Model_169 (woModel hw) (fun _ _ _ => rfl) rfl rfl dModel_land_99 ?_
      generalize eI12 : q_u I11 o 67 0 = I12
      have H := H I12 eI12
      refine ev_aload_n dModel_land_102 rfl ?_
      refine ev_iconst (0) dModel_land_103 (by decide) ?_
      refine ev_putI hok fk_Model_172 (woModel hw) (fun _ _ _ => rfl) (q_bz (Or.inl rfl)) (q_bf (Or.inl rfl)) dModel_land_104 ?_
      generalize eI13 : q_u I12 o 135 0 = I13
      have H := H I13 eI13
      refine ev_aload_n dModel_land_107 rfl ?_
      refine ev_callV [] [] (B' := (0, 0)) (B'' := (0, 0)) hok mmModel_measure mk_Model_175 (ci := 12) rfl rfl (woModel hw) rfl (Nat.le_of_ble_eq_true rfl) rfl (Nat.le_of_ble_eq_true rfl) dModel_land_108 rfl (by decide) H (fun v τ p14 => ?_)
      obtain ⟨I16, L17, rfl, rfl, H⟩ := p14
      refine ev_aload_n dModel_land_111 rfl ?_
      refine ev_getR hok fk_Model_153 (woModel hw) (fun _ _ _ => rfl) (wrModel_15 hw) dModel_land_112 ?_
      refine ev_aload_n dModel_land_115 rfl ?_
      refine ev_getI hok fk_Model_147 (woModel hw) (fun _ _ _ => rfl) dModel_land_116 ?_
      obtain ⟨h18, H⟩ := H
      refine ev_iald hok (waModel_15 hw) h18 dModel_land_119 ?_
      refine ev_aload_n dModel_land_120 rfl ?_
      refine ev_getR hok fk_Model_157 (woModel hw) (fun _ _ _ => rfl) (wrModel_16 hw) dModel_land_121 ?_
      refine ev_aload_n dModel_land_124 rfl ?_
      refine ev_getI hok fk_Model_147 (woModel hw) (fun _ _ _ => rfl) dModel_land_125 ?_
      obtain ⟨h19, H⟩ := H
      refine ev_iald hok (waModel_16 hw) h19 dModel_land_128 ?_
      refine ev_iadd dModel_land_129 ?_
      refine ev_aload_n dModel_land_130 rfl ?_
      refine ev_getR hok fk_Model_160 (woModel hw) (fun _ _ _ => rfl) (wrModel_17 hw) dModel_land_131 ?_
      refine ev_aload_n dModel_land_134 rfl ?_
      refine ev_getI hok fk_Model_147 (woModel hw) (fun _ _ _ => rfl) dModel_land_135 ?_
      obtain ⟨h20, H⟩ := H
      refine ev_iald hok (waModel_17 hw) h20 dModel_land_138 ?_
      refine ev_iadd dModel_land_139 ?_
      refine ev_aload_n dModel_land_140 rfl ?_
      refine ev_getR hok fk_Model_163 (woModel hw) (fun _ _ _ => rfl) (wrModel_18 hw) dModel_land_141 ?_
      refine ev_aload_n dModel_land_144 rfl ?_
      refine ev_getI hok fk_Model_147 (woModel hw) (fun _ _ _ => rfl) dModel_land_145 ?_
      obtain ⟨h21, H⟩ := H
      refine ev_iald hok (waModel_18 hw) h21 dModel_land_148 ?_
      refine ev_iadd dModel_land_149 ?_
      exact ev_iret rfl dModel_land_150 H
    · have H := H.2 c10
      refine ev_iconst (-1) dModel_land_87 (by decide) ?_
      exact ev_iret rfl dModel_land_88 H
  · have H := H.2 c5
    refine ev_aload_n dModel_land_66 rfl ?_
    refine ev_getI hok fk_Model_98 (woModel hw) (fun _ _ _ => rfl) dModel_land_67 ?_
    refine ev_if_eq 80 dModel_land_70 (by decide) (fun c22 => ?_) (fun c22 => ?_)
    · have H := H.1 c22
      refine ev_aload_n dModel_land_80 rfl ?_
      refine ev_callV [] [] (B' := (0, 0)) (B'' := (0, 0)) hok mmModel_isGood mk_Model_126 (ci := 12) rfl rfl (woModel hw) rfl (Nat.le_of_ble_eq_true rfl) rfl (Nat.le_of_ble_eq_true rfl) dModel_land_81 rfl (by decide) H (fun v τ p23 => ?_)
      obtain ⟨r24, I25, L26, rfl, rfl, H⟩ := p23
      refine ev_if_ne 89 dModel_land_84 (by decide) (fun c27 => ?_) (fun c27 => ?_)
      · have H := H.1 c27
        refine ev_aload_n dModel_land_89 rfl ?_
        refine ev_aload_n dModel_land_90 rfl ?_
        refine ev_getI hok fk_Model_150 (woModel hw) (fun _ _ _ => rfl) dModel_land_91 ?_
        refine ev_putI hok fk_Model_147 (woModel hw) (fun _ _ _ => rfl) rfl rfl dModel_land_94 ?_
        generalize eI28 : q_u I25 o 34 (I25 o 35) = I28
        have H := H I28 eI28
        refine ev_aload_n dModel_land_97 rfl ?_
        refine ev_iconst (0) dModel_land_98 (by decide) ?_
        refine ev_putI hok fk_Model_169 (woModel hw) (fun _ _ _ => rfl) rfl rfl dModel_land_99 ?_
        generalize eI29 : q_u I28 o 67 0 = I29
        have H := H I29 eI29
        refine ev_aload_n dModel_land_102 rfl ?_
        refine ev_iconst (0) dModel_land_103 (by decide) ?_
        refine ev_putI hok fk_Model_172 (woModel hw) (fun _ _ _ => rfl) (q_bz (Or.inl rfl)) (q_bf (Or.inl rfl)) dModel_land_104 ?_
        generalize eI30 : q_u I29 o 135 0 = I30
        have H := H I30 eI30
        refine ev_aload_n dModel_land_107 rfl ?_
        refine ev_callV [] [] (B' := (0, 0)) (B'' := (0, 0)) hok mmModel_measure mk_Model_175 (ci := 12) rfl rfl (woModel hw) rfl (Nat.le_of_ble_eq_true rfl) rfl (Nat.le_of_ble_eq_true rfl) dModel_land_108 rfl (by decide) H (fun v τ p31 => ?_)
        obtain ⟨I33, L34, rfl, rfl, H⟩ := p31
        refine ev_aload_n dModel_land_111 rfl ?_
        refine ev_getR hok fk_Model_153 (woModel hw) (fun _ _ _ => rfl) (wrModel_15 hw) dModel_land_112 ?_
        refine ev_aload_n dModel_land_115 rfl ?_
        refine ev_getI hok fk_Model_147 (woModel hw) (fun _ _ _ => rfl) dModel_land_116 ?_
        obtain ⟨h35, H⟩ := H
        refine ev_iald hok (waModel_15 hw) h35 dModel_land_119 ?_
        refine ev_aload_n dModel_land_120 rfl ?_
        refine ev_getR hok fk_Model_157 (woModel hw) (fun _ _ _ => rfl) (wrModel_16 hw) dModel_land_121 ?_
        refine ev_aload_n dModel_land_124 rfl ?_
        refine ev_getI hok fk_Model_147 (woModel hw) (fun _ _ _ => rfl) dModel_land_125 ?_
        obtain ⟨h36, H⟩ := H
        refine ev_iald hok (waModel_16 hw) h36 dModel_land_128 ?_
        refine ev_iadd dModel_land_129 ?_
        refine ev_aload_n dModel_land_130 rfl ?_
        refine ev_getR hok fk_Model_160 (woModel hw) (fun _ _ _ => rfl) (wrModel_17 hw) dModel_land_131 ?_
        refine ev_aload_n dModel_land_134 rfl ?_
        refine ev_getI hok fk_Model_147 (woModel hw) (fun _ _ _ => rfl) dModel_land_135 ?_
        obtain ⟨h37, H⟩ := H
        refine ev_iald hok (waModel_17 hw) h37 dModel_land_138 ?_
        refine ev_iadd dModel_land_139 ?_
        refine ev_aload_n dModel_land_140 rfl ?_
        refine ev_getR hok fk_Model_163 (woModel hw) (fun _ _ _ => rfl) (wrModel_18 hw) dModel_land_141 ?_
        refine ev_aload_n dModel_land_144 rfl ?_
        refine ev_getI hok fk_Model_147 (woModel hw) (fun _ _ _ => rfl) dModel_land_145 ?_
        obtain ⟨h38, H⟩ := H
        refine ev_iald hok (waModel_18 hw) h38 dModel_land_148 ?_
        refine ev_iadd dModel_land_149 ?_
        exact ev_iret rfl dModel_land_150 H
      · have H := H.2 c27
        refine ev_iconst (-1) dModel_land_87 (by decide) ?_
        exact ev_iret rfl dModel_land_88 H
    · have H := H.2 c22
      refine ev_aload_n dModel_land_73 rfl ?_
      refine ev_callV [] [] (B' := (0, 0)) (B'' := (0, 0)) hok mmModel_readLine mk_Model_166 (ci := 12) rfl rfl (woModel hw) rfl (Nat.le_of_ble_eq_true rfl) rfl (Nat.le_of_ble_eq_true rfl) dModel_land_74 rfl (by decide) H (fun v τ p39 => ?_)
      obtain ⟨I41, L42, rfl, rfl, H⟩ := p39
      refine ev_goto 59 dModel_land_77 (by decide) ?_
      exact ev_sub [(0, .ref o)] rfl H
def fModel_land_0 (D : va_G) (cA : FieldType → ClassId) (b : Nat) (E : State → Prop) (o : Nat) (n : Nat) (sh : Nat → qC) (Rf : Nat → Nat → Option Nat) (I : Nat → Nat → Int32) (L : Nat → Nat → Int64) (post : Option Value → qS → Prop)  : Prop :=
  Ev (qGG D cA b E) mModel_takeTape 0 (0, 0) 0 (lv_args 0 [.ref o, .int 0]) [] (n, sh, Rf, I, L) (fun v τ => ∃ (I3 : Nat → Nat → Int32) (L4 : Nat → Nat → Int64), v = none ∧ τ = (n, sh, Rf, I3, L4) ∧ ∀ I5 : Nat → Nat → Int32, q_u I3 o 35 (1 - (I3 o 34)) = I5 → vp_in (I5 o 35) 2 ∧ ∀ I6 : Nat → Nat → Int32, q_u I5 (o + 6) ((I5 o 35) : Int32).toNatClampNeg 0 = I6 → vp_in (I6 o 35) 2 ∧ ∀ I8 : Nat → Nat → Int32, q_u I6 (o + 7) ((I6 o 35) : Int32).toNatClampNeg 0 = I8 → vp_in (I8 o 35) 2 ∧ ∀ I10 : Nat → Nat → Int32, q_u I8 (o + 8) ((I8 o 35) : Int32).toNatClampNeg 0 = I10 → vp_in (I10 o 35) 2 ∧ ∀ I12 : Nat → Nat → Int32, q_u I10 (o + 9) ((I10 o 35) : Int32).toNatClampNeg 0 = I12 → Ev (qGG D cA b E) mModel_next 2 (0, 0) 0 (lv_args 0 [.ref o]) [] (n, sh, Rf, I12, L4) (fun v τ => ∃ (I16 : Nat → Nat → Int32) (L17 : Nat → Nat → Int64), v = none ∧ τ = (n, sh, Rf, I16, L17) ∧ Ev (qGG D cA b E) mModel_land 7 (0, 0) 59 [(0, .ref o)] [] (n, sh, Rf, I16, L17) post))
set_option maxHeartbeats 4000000 in
set_option maxRecDepth 20000 in
theorem sModel_land_0 {D : va_G} {cA : FieldType → ClassId} {b : Nat} {E : State → Prop} (o : Nat) (n : Nat) (sh : Nat → qC) (Rf : Nat → Nat → Option Nat) (I : Nat → Nat → Int32) (L : Nat → Nat → Int64) (post : Option Value → qS → Prop)  (hok : q_ok (qGG D cA b E)) (hw : WfModel (qGG D cA b E) n sh Rf o) (H : fModel_land_0 D cA b E o n sh Rf I L post ) : Ev (qGG D cA b E) mModel_land 7 (0, 0) 0 [(0, .ref o)] [] (n, sh, Rf, I, L) post := by
  unfold fModel_land_0 at H
  refine ev_aload_n dModel_land_0 rfl ?_
  refine ev_iconst (0) dModel_land_1 (by decide) ?_
  refine ev_callV [.int 0] [] (B' := (0, 0)) (B'' := (0, 0)) hok mmModel_takeTape mk_Model_143 (ci := 12) rfl rfl (woModel hw) rfl (Nat.le_of_ble_eq_true rfl) rfl (Nat.le_of_ble_eq_true rfl) dModel_land_2 rfl (by decide) H (fun v τ p1 => ?_)
  obtain ⟨I3, L4, rfl, rfl, H⟩ := p1
  refine ev_aload_n dModel_land_5 rfl ?_
  refine ev_iconst (1) dModel_land_6 (by decide) ?_
  refine ev_aload_n dModel_land_7 rfl ?_
  refine ev_getI hok fk_Model_147 (woModel hw) (fun _ _ _ => rfl) dModel_land_8 ?_
  refine ev_isub dModel_land_11 ?_
  refine ev_putI hok fk_Model_150 (woModel hw) (fun _ _ _ => rfl) rfl rfl dModel_land_12 ?_
  generalize eI5 : q_u I3 o 35 (1 - (I3 o 34)) = I5
  have H := H I5 eI5
  refine ev_aload_n dModel_land_15 rfl ?_
  refine ev_getR hok fk_Model_153 (woModel hw) (fun _ _ _ => rfl) (wrModel_15 hw) dModel_land_16 ?_
  refine ev_aload_n dModel_land_19 rfl ?_
  refine ev_getI hok fk_Model_150 (woModel hw) (fun _ _ _ => rfl) dModel_land_20 ?_
  refine ev_iconst (0) dModel_land_23 (by decide) ?_
  obtain ⟨h7, H⟩ := H
  refine ev_iast hok (waModel_15 hw) h7 dModel_land_24 ?_
  generalize eI6 : q_u I5 (o + 6) ((I5 o 35) : Int32).toNatClampNeg 0 = I6
  have H := H I6 eI6
  refine ev_aload_n dModel_land_25 rfl ?_
  refine ev_getR hok fk_Model_157 (woModel hw) (fun _ _ _ => rfl) (wrModel_16 hw) dModel_land_26 ?_
  refine ev_aload_n dModel_land_29 rfl ?_
  refine ev_getI hok fk_Model_150 (woModel hw) (fun _ _ _ => rfl) dModel_land_30 ?_
  refine ev_iconst (0) dModel_land_33 (by decide) ?_
  obtain ⟨h9, H⟩ := H
  refine ev_iast hok (waModel_16 hw) h9 dModel_land_34 ?_
  generalize eI8 : q_u I6 (o + 7) ((I6 o 35) : Int32).toNatClampNeg 0 = I8
  have H := H I8 eI8
  refine ev_aload_n dModel_land_35 rfl ?_
  refine ev_getR hok fk_Model_160 (woModel hw) (fun _ _ _ => rfl) (wrModel_17 hw) dModel_land_36 ?_
  refine ev_aload_n dModel_land_39 rfl ?_
  refine ev_getI hok fk_Model_150 (woModel hw) (fun _ _ _ => rfl) dModel_land_40 ?_
  refine ev_iconst (0) dModel_land_43 (by decide) ?_
  obtain ⟨h11, H⟩ := H
  refine ev_iast hok (waModel_17 hw) h11 dModel_land_44 ?_
  generalize eI10 : q_u I8 (o + 8) ((I8 o 35) : Int32).toNatClampNeg 0 = I10
  have H := H I10 eI10
  refine ev_aload_n dModel_land_45 rfl ?_
  refine ev_getR hok fk_Model_163 (woModel hw) (fun _ _ _ => rfl) (wrModel_18 hw) dModel_land_46 ?_
  refine ev_aload_n dModel_land_49 rfl ?_
  refine ev_getI hok fk_Model_150 (woModel hw) (fun _ _ _ => rfl) dModel_land_50 ?_
  refine ev_iconst (0) dModel_land_53 (by decide) ?_
  obtain ⟨h13, H⟩ := H
  refine ev_iast hok (waModel_18 hw) h13 dModel_land_54 ?_
  generalize eI12 : q_u I10 (o + 9) ((I10 o 35) : Int32).toNatClampNeg 0 = I12
  have H := H I12 eI12
  refine ev_aload_n dModel_land_55 rfl ?_
  refine ev_callV [] [] (B' := (0, 0)) (B'' := (0, 0)) hok mmModel_next mk_Model_130 (ci := 12) rfl rfl (woModel hw) rfl (Nat.le_of_ble_eq_true rfl) rfl (Nat.le_of_ble_eq_true rfl) dModel_land_56 rfl (by decide) H (fun v τ p14 => ?_)
  obtain ⟨I16, L17, rfl, rfl, H⟩ := p14
  exact ev_sub [(0, .ref o)] rfl H
def fModel_reform_95 (D : va_G) (cA : FieldType → ClassId) (b : Nat) (E : State → Prop) (o : Nat) (n : Nat) (sh : Nat → qC) (Rf : Nat → Nat → Option Nat) (I : Nat → Nat → Int32) (L : Nat → Nat → Int64) (post : Option Value → qS → Prop) (x1 : Int32) (x2 : Int32) : Prop :=
  Ev (qGG D cA b E) mModel_isGood 0 (0, 0) 0 (lv_args 0 [.ref o]) [] (n, sh, Rf, I, L) (fun v τ => ∃ (r2 : Int32) (I3 : Nat → Nat → Int32) (L4 : Nat → Nat → Int64), v = some (.int r2) ∧ τ = (n, sh, Rf, I3, L4) ∧ ((r2 = 0 → Ev (qGG D cA b E) mModel_isGood 0 (0, 0) 0 (lv_args 0 [.ref o]) [] (n, sh, Rf, I3, L4) (fun v τ => ∃ (r7 : Int32) (I8 : Nat → Nat → Int32) (L9 : Nat → Nat → Int64), v = some (.int r7) ∧ τ = (n, sh, Rf, I8, L9) ∧ ((¬ r7 = 0 → Ev (qGG D cA b E) mModel_lay 0 (0, 0) 0 (lv_args 0 [.ref o, .int ((I8 o 44)), .int x1]) [] (n, sh, Rf, I8, L9) (fun v τ => ∃ (I13 : Nat → Nat → Int32) (L14 : Nat → Nat → Int64), v = none ∧ τ = (n, sh, Rf, I13, L14) ∧ vp_in x1 6 ∧ post (some (.int ((I13 (o + 29) (x1 : Int32).toNatClampNeg)))) (n, sh, Rf, I13, L14))) ∧ (r7 = 0 → post (some (.int ((-1)))) (n, sh, Rf, I8, L9))))) ∧ (¬ r2 = 0 → (((I3 o 8) = 0 → Ev (qGG D cA b E) mModel_isGood 0 (0, 0) 0 (lv_args 0 [.ref o]) [] (n, sh, Rf, I3, L4) (fun v τ => ∃ (r18 : Int32) (I19 : Nat → Nat → Int32) (L20 : Nat → Nat → Int64), v = some (.int r18) ∧ τ = (n, sh, Rf, I19, L20) ∧ ((¬ r18 = 0 → Ev (qGG D cA b E) mModel_lay 0 (0, 0) 0 (lv_args 0 [.ref o, .int ((I19 o 44)), .int x1]) [] (n, sh, Rf, I19, L20) (fun v τ => ∃ (I24 : Nat → Nat → Int32) (L25 : Nat → Nat → Int64), v = none ∧ τ = (n, sh, Rf, I24, L25) ∧ vp_in x1 6 ∧ post (some (.int ((I24 (o + 29) (x1 : Int32).toNatClampNeg)))) (n, sh, Rf, I24, L25))) ∧ (r18 = 0 → post (some (.int ((-1)))) (n, sh, Rf, I19, L20))))) ∧ (¬ (I3 o 8) = 0 → Ev (qGG D cA b E) mModel_readReform 6 (0, 0) 0 (lv_args 0 [.ref o]) [] (n, sh, Rf, I3, L4) (fun v τ => ∃ (I29 : Nat → Nat → Int32) (L30 : Nat → Nat → Int64), v = none ∧ τ = (n, sh, Rf, I29, L30) ∧ Ev (qGG D cA b E) mModel_reform 7 (0, 0) 95 [(0, .ref o), (1, .int x1), (2, .int x2)] [] (n, sh, Rf, I29, L30) post))))))
set_option maxHeartbeats 4000000 in
set_option maxRecDepth 20000 in
theorem sModel_reform_95 {D : va_G} {cA : FieldType → ClassId} {b : Nat} {E : State → Prop} (o : Nat) (n : Nat) (sh : Nat → qC) (Rf : Nat → Nat → Option Nat) (I : Nat → Nat → Int32) (L : Nat → Nat → Int64) (post : Option Value → qS → Prop) (x1 : Int32) (x2 : Int32) (hok : q_ok (qGG D cA b E)) (hw : WfModel (qGG D cA b E) n sh Rf o) (H : fModel_reform_95 D cA b E o n sh Rf I L post x1 x2) : Ev (qGG D cA b E) mModel_reform 7 (0, 0) 95 [(0, .ref o), (1, .int x1), (2, .int x2)] [] (n, sh, Rf, I, L) post := by
  unfold fModel_reform_95 at H
  refine ev_aload_n dModel_reform_95 rfl ?_
  refine ev_callV [] [] (B' := (0, 0)) (B'' := (0, 0)) hok mmModel_isGood mk_Model_126 (ci := 12) rfl rfl (woModel hw) rfl (Nat.le_of_ble_eq_true rfl) rfl (Nat.le_of_ble_eq_true rfl) dModel_reform_96 rfl (by decide) H (fun v τ p1 => ?_)
  obtain ⟨r2, I3, L4, rfl, rfl, H⟩ := p1
  refine ev_if_eq 116 dModel_reform_99 (by decide) (fun c5 => ?_) (fun c5 => ?_)
  · have H := H.1 c5
    refine ev_aload_n dModel_reform_116 rfl ?_
    refine ev_callV [] [] (B' := (0, 0)) (B'' := (0, 0)) hok mmModel_isGood mk_Model_126 (ci := 12) rfl rfl (woModel hw) rfl (Nat.le_of_ble_eq_true rfl) rfl (Nat.le_of_ble_eq_true rfl) dModel_reform_117 rfl (by decide) H (fun v τ p6 => ?_)
    obtain ⟨r7, I8, L9, rfl, rfl, H⟩ := p6
    refine ev_if_ne 125 dModel_reform_120 (by decide) (fun c10 => ?_) (fun c10 => ?_)
    · have H := H.1 c10
      refine ev_aload_n dModel_reform_125 rfl ?_
      refine ev_aload_n dModel_reform_126 rfl ?_
      refine ev_getI hok fk_Model_276 (woModel hw) (fun _ _ _ => rfl) dModel_reform_127 ?_
      refine ev_iload_n dModel_reform_130 rfl ?_
      refine ev_callV [.int ((I8 o 44)), .int x1] [] (B' := (0, 0)) (B'' := (0, 0)) hok mmModel_lay mk_Model_297 (ci := 12) rfl rfl (woModel hw) rfl (Nat.le_of_ble_eq_true rfl) rfl (Nat.le_of_ble_eq_true rfl) dModel_reform_131 rfl (by decide) H (fun v τ p11 => ?_)
      obtain ⟨I13, L14, rfl, rfl, H⟩ := p11
      refine ev_aload_n dModel_reform_134 rfl ?_
      refine ev_getR hok fk_Model_282 (woModel hw) (fun _ _ _ => rfl) (wrModel_40 hw) dModel_reform_135 ?_
      refine ev_iload_n dModel_reform_138 rfl ?_
      obtain ⟨h15, H⟩ := H
      refine ev_iald hok (waModel_40 hw) h15 dModel_reform_139 ?_
      exact ev_iret rfl dModel_reform_140 H
    · have H := H.2 c10
      refine ev_iconst (-1) dModel_reform_123 (by decide) ?_
      exact ev_iret rfl dModel_reform_124 H
  · have H := H.2 c5
    refine ev_aload_n dModel_reform_102 rfl ?_
    refine ev_getI hok fk_Model_98 (woModel hw) (fun _ _ _ => rfl) dModel_reform_103 ?_
    refine ev_if_eq 116 dModel_reform_106 (by decide) (fun c16 => ?_) (fun c16 => ?_)
    · have H := H.1 c16
      refine ev_aload_n dModel_reform_116 rfl ?_
      refine ev_callV [] [] (B' := (0, 0)) (B'' := (0, 0)) hok mmModel_isGood mk_Model_126 (ci := 12) rfl rfl (woModel hw) rfl (Nat.le_of_ble_eq_true rfl) rfl (Nat.le_of_ble_eq_true rfl) dModel_reform_117 rfl (by decide) H (fun v τ p17 => ?_)
      obtain ⟨r18, I19, L20, rfl, rfl, H⟩ := p17
      refine ev_if_ne 125 dModel_reform_120 (by decide) (fun c21 => ?_) (fun c21 => ?_)
      · have H := H.1 c21
        refine ev_aload_n dModel_reform_125 rfl ?_
        refine ev_aload_n dModel_reform_126 rfl ?_
        refine ev_getI hok fk_Model_276 (woModel hw) (fun _ _ _ => rfl) dModel_reform_127 ?_
        refine ev_iload_n dModel_reform_130 rfl ?_
        refine ev_callV [.int ((I19 o 44)), .int x1] [] (B' := (0, 0)) (B'' := (0, 0)) hok mmModel_lay mk_Model_297 (ci := 12) rfl rfl (woModel hw) rfl (Nat.le_of_ble_eq_true rfl) rfl (Nat.le_of_ble_eq_true rfl) dModel_reform_131 rfl (by decide) H (fun v τ p22 => ?_)
        obtain ⟨I24, L25, rfl, rfl, H⟩ := p22
        refine ev_aload_n dModel_reform_134 rfl ?_
        refine ev_getR hok fk_Model_282 (woModel hw) (fun _ _ _ => rfl) (wrModel_40 hw) dModel_reform_135 ?_
        refine ev_iload_n dModel_reform_138 rfl ?_
        obtain ⟨h26, H⟩ := H
        refine ev_iald hok (waModel_40 hw) h26 dModel_reform_139 ?_
        exact ev_iret rfl dModel_reform_140 H
      · have H := H.2 c21
        refine ev_iconst (-1) dModel_reform_123 (by decide) ?_
        exact ev_iret rfl dModel_reform_124 H
    · have H := H.2 c16
      refine ev_aload_n dModel_reform_109 rfl ?_
      refine ev_callV [] [] (B' := (0, 0)) (B'' := (0, 0)) hok mmModel_readReform mk_Model_294 (ci := 12) rfl rfl (woModel hw) rfl (Nat.le_of_ble_eq_true rfl) rfl (Nat.le_of_ble_eq_true rfl) dModel_reform_110 rfl (by decide) H (fun v τ p27 => ?_)
      obtain ⟨I29, L30, rfl, rfl, H⟩ := p27
      refine ev_goto 95 dModel_reform_113 (by decide) ?_
      exact ev_sub [(0, .ref o), (1, .int x1), (2, .int x2)] rfl H
def fModel_reform_54 (D : va_G) (cA : FieldType → ClassId) (b : Nat) (E : State → Prop) (o : Nat) (n : Nat) (sh : Nat → qC) (Rf : Nat → Nat → Option Nat) (I : Nat → Nat → Int32) (L : Nat → Nat → Int64) (post : Option Value → qS → Prop) (x1 : Int32) (x2 : Int32) : Prop :=
  ((10 ≤ x2 → ∀ I2 : Nat → Nat → Int32, q_u I o 45 0 = I2 → ∀ I3 : Nat → Nat → Int32, q_u I2 o 46 0 = I3 → Ev (qGG D cA b E) mModel_next 2 (0, 0) 0 (lv_args 0 [.ref o]) [] (n, sh, Rf, I3, L) (fun v τ => ∃ (I6 : Nat → Nat → Int32) (L7 : Nat → Nat → Int64), v = none ∧ τ = (n, sh, Rf, I6, L7) ∧ Ev (qGG D cA b E) mModel_reform 7 (0, 0) 95 [(0, .ref o), (1, .int x1), (2, .int x2)] [] (n, sh, Rf, I6, L7) post)) ∧ (¬ 10 ≤ x2 → vp_in ((10 * (I o 44)) + x2) 60 ∧ ∀ I8 : Nat → Nat → Int32, q_u I (o + 26) (((10 * (I o 44)) + x2) : Int32).toNatClampNeg (-1) = I8 → Ev (qGG D cA b E) mModel_reform 7 (0, 0) 54 [(0, .ref o), (1, .int x1), (2, .int ((x2 + Int32.ofInt 1)))] [] (n, sh, Rf, I8, L) post))
set_option maxHeartbeats 4000000 in
set_option maxRecDepth 20000 in
theorem sModel_reform_54 {D : va_G} {cA : FieldType → ClassId} {b : Nat} {E : State → Prop} (o : Nat) (n : Nat) (sh : Nat → qC) (Rf : Nat → Nat → Option Nat) (I : Nat → Nat → Int32) (L : Nat → Nat → Int64) (post : Option Value → qS → Prop) (x1 : Int32) (x2 : Int32) (hok : q_ok (qGG D cA b E)) (hw : WfModel (qGG D cA b E) n sh Rf o) (H : fModel_reform_54 D cA b E o n sh Rf I L post x1 x2) : Ev (qGG D cA b E) mModel_reform 7 (0, 0) 54 [(0, .ref o), (1, .int x1), (2, .int x2)] [] (n, sh, Rf, I, L) post := by
  unfold fModel_reform_54 at H
  refine ev_iload_n dModel_reform_54 rfl ?_
  refine ev_bipush (10) dModel_reform_55 (by decide) ?_
  refine ev_icmp_ge 81 dModel_reform_57 (by decide) (fun c1 => ?_) (fun c1 => ?_)
  · have H := H.1 c1
    refine ev_aload_n dModel_reform_81 rfl ?_
    refine ev_iconst (0) dModel_reform_82 (by decide) ?_
    refine ev_putI hok fk_Model_288 (woModel hw) (fun _ _ _ => rfl) rfl rfl dModel_reform_83 ?_
    generalize eI2 : q_u I o 45 0 = I2
    have H := H I2 eI2
    refine ev_aload_n dModel_reform_86 rfl ?_
    refine ev_iconst (0) dModel_reform_87 (by decide) ?_
    refine ev_putI hok fk_Model_291 (woModel hw) (fun _ _ _ => rfl) rfl rfl dModel_reform_88 ?_
    generalize eI3 : q_u I2 o 46 0 = I3
    have H := H I3 eI3
    refine ev_aload_n dModel_reform_91 rfl ?_
    refine ev_callV [] [] (B' := (0, 0)) (B'' := (0, 0)) hok mmModel_next mk_Model_130 (ci := 12) rfl rfl (woModel hw) rfl (Nat.le_of_ble_eq_true rfl) rfl (Nat.le_of_ble_eq_true rfl) dModel_reform_92 rfl (by decide) H (fun v τ p4 => ?_)
    obtain ⟨I6, L7, rfl, rfl, H⟩ := p4
    exact ev_sub [(0, .ref o), (1, .int x1), (2, .int x2)] rfl H
  · have H := H.2 c1
    refine ev_aload_n dModel_reform_60 rfl ?_
    refine ev_getR hok fk_Model_285 (woModel hw) (fun _ _ _ => rfl) (wrModel_37 hw) dModel_reform_61 ?_
    refine ev_bipush (10) dModel_reform_64 (by decide) ?_
    refine ev_aload_n dModel_reform_66 rfl ?_
    refine ev_getI hok fk_Model_276 (woModel hw) (fun _ _ _ => rfl) dModel_reform_67 ?_
    refine ev_imul dModel_reform_70 ?_
    refine ev_iload_n dModel_reform_71 rfl ?_
    refine ev_iadd dModel_reform_72 ?_
    refine ev_iconst (-1) dModel_reform_73 (by decide) ?_
    obtain ⟨h9, H⟩ := H
    refine ev_iast hok (waModel_37 hw) h9 dModel_reform_74 ?_
    generalize eI8 : q_u I (o + 26) (((10 * (I o 44)) + x2) : Int32).toNatClampNeg (-1) = I8
    have H := H I8 eI8
    refine ev_iinc dModel_reform_75 rfl (by decide) ?_
    refine ev_goto 54 dModel_reform_78 (by decide) ?_
    exact ev_sub [(0, .ref o), (1, .int x1), (2, .int ((x2 + Int32.ofInt 1)))] rfl H
def fModel_reform_0 (D : va_G) (cA : FieldType → ClassId) (b : Nat) (E : State → Prop) (o : Nat) (n : Nat) (sh : Nat → qC) (Rf : Nat → Nat → Option Nat) (I : Nat → Nat → Int32) (L : Nat → Nat → Int64) (post : Option Value → qS → Prop) (x1 : Int32) : Prop :=
  ((700 < (I o 2) → post (some (.int ((-2)))) (n, sh, Rf, I, L)) ∧ (¬ 700 < (I o 2) → ((x1 < 0 → post (some (.int ((-2)))) (n, sh, Rf, I, L)) ∧ (¬ x1 < 0 → ((x1 < 4 → Ev (qGG D cA b E) mModel_takeTape 0 (0, 0) 0 (lv_args 0 [.ref o, .int 1]) [] (n, sh, Rf, I, L) (fun v τ => ∃ (I6 : Nat → Nat → Int32) (L7 : Nat → Nat → Int64), v = none ∧ τ = (n, sh, Rf, I6, L7) ∧ ∀ I8 : Nat → Nat → Int32, q_u I6 o 44 4 = I8 → vp_in (I8 o 44) 6 ∧ ∀ I9 : Nat → Nat → Int32, q_u I8 (o + 28) ((I8 o 44) : Int32).toNatClampNeg 0 = I9 → vp_in (I9 o 44) 6 ∧ ∀ I11 : Nat → Nat → Int32, q_u I9 (o + 29) ((I9 o 44) : Int32).toNatClampNeg 0 = I11 → Ev (qGG D cA b E) mModel_reform 7 (0, 0) 54 [(0, .ref o), (1, .int x1), (2, .int 0)] [] (n, sh, Rf, I11, L7) post)) ∧ (¬ x1 < 4 → post (some (.int ((-2)))) (n, sh, Rf, I, L)))))))
set_option maxHeartbeats 4000000 in
set_option maxRecDepth 20000 in
theorem sModel_reform_0 {D : va_G} {cA : FieldType → ClassId} {b : Nat} {E : State → Prop} (o : Nat) (n : Nat) (sh : Nat → qC) (Rf : Nat → Nat → Option Nat) (I : Nat → Nat → Int32) (L : Nat → Nat → Int64) (post : Option Value → qS → Prop) (x1 : Int32) (hok : q_ok (qGG D cA b E)) (hw : WfModel (qGG D cA b E) n sh Rf o) (H : fModel_reform_0 D cA b E o n sh Rf I L post x1) : Ev (qGG D cA b E) mModel_reform 7 (0, 0) 0 [(0, .ref o), (1, .int x1)] [] (n, sh, Rf, I, L) post := by
  unfold fModel_reform_0 at H
  refine ev_aload_n dModel_reform_0 rfl ?_
  refine ev_getI hok fk_Model_137 (woModel hw) (fun _ _ _ => rfl) dModel_reform_1 ?_
  refine ev_sipush (700) dModel_reform_4 (by decide) ?_
  refine ev_icmp_gt 19 dModel_reform_7 (by decide) (fun c1 => ?_) (fun c1 => ?_)
  · have H := H.1 c1
    refine ev_bipush (-2) dModel_reform_19 (by decide) ?_
    exact ev_iret rfl dModel_reform_21 H
  · have H := H.2 c1
    refine ev_iload_n dModel_reform_10 rfl ?_
    refine ev_if_lt 19 dModel_reform_11 (by decide) (fun c2 => ?_) (fun c2 => ?_)
    · have H := H.1 c2
      refine ev_bipush (-2) dModel_reform_19 (by decide) ?_
      exact ev_iret rfl dModel_reform_21 H
    · have H := H.2 c2
      refine ev_iload_n dModel_reform_14 rfl ?_
      refine ev_iconst (4) dModel_reform_15 (by decide) ?_
      refine ev_icmp_lt 22 dModel_reform_16 (by decide) (fun c3 => ?_) (fun c3 => ?_)
      · have H := H.1 c3
        refine ev_aload_n dModel_reform_22 rfl ?_
        refine ev_iconst (1) dModel_reform_23 (by decide) ?_
        refine ev_callV [.int 1] [] (B' := (0, 0)) (B'' := (0, 0)) hok mmModel_takeTape mk_Model_143 (ci := 12) rfl rfl (woModel hw) rfl (Nat.le_of_ble_eq_true rfl) rfl (Nat.le_of_ble_eq_true rfl) dModel_reform_24 rfl (by decide) H (fun v τ p4 => ?_)
        obtain ⟨I6, L7, rfl, rfl, H⟩ := p4
        refine ev_aload_n dModel_reform_27 rfl ?_
        refine ev_iconst (4) dModel_reform_28 (by decide) ?_
        refine ev_putI hok fk_Model_276 (woModel hw) (fun _ _ _ => rfl) rfl rfl dModel_reform_29 ?_
        generalize eI8 : q_u I6 o 44 4 = I8
        have H := H I8 eI8
        refine ev_aload_n dModel_reform_32 rfl ?_
        refine ev_getR hok fk_Model_279 (woModel hw) (fun _ _ _ => rfl) (wrModel_39 hw) dModel_reform_33 ?_
        refine ev_aload_n dModel_reform_36 rfl ?_
        refine ev_getI hok fk_Model_276 (woModel hw) (fun _ _ _ => rfl) dModel_reform_37 ?_
        refine ev_iconst (0) dModel_reform_40 (by decide) ?_
        obtain ⟨h10, H⟩ := H
        refine ev_iast hok (waModel_39 hw) h10 dModel_reform_41 ?_
        generalize eI9 : q_u I8 (o + 28) ((I8 o 44) : Int32).toNatClampNeg 0 = I9
        have H := H I9 eI9
        refine ev_aload_n dModel_reform_42 rfl ?_
        refine ev_getR hok fk_Model_282 (woModel hw) (fun _ _ _ => rfl) (wrModel_40 hw) dModel_reform_43 ?_
        refine ev_aload_n dModel_reform_46 rfl ?_
        refine ev_getI hok fk_Model_276 (woModel hw) (fun _ _ _ => rfl) dModel_reform_47 ?_
        refine ev_iconst (0) dModel_reform_50 (by decide) ?_
        obtain ⟨h12, H⟩ := H
        refine ev_iast hok (waModel_40 hw) h12 dModel_reform_51 ?_
        generalize eI11 : q_u I9 (o + 29) ((I9 o 44) : Int32).toNatClampNeg 0 = I11
        have H := H I11 eI11
        refine ev_iconst (0) dModel_reform_52 (by decide) ?_
        refine ev_istore_n dModel_reform_53 (by decide) ?_
        exact ev_sub [(0, .ref o), (1, .int x1), (2, .int 0)] rfl H
      · have H := H.2 c3
        refine ev_bipush (-2) dModel_reform_19 (by decide) ?_
        exact ev_iret rfl dModel_reform_21 H
def fModel_act_0 (D : va_G) (cA : FieldType → ClassId) (b : Nat) (E : State → Prop) (o : Nat) (n : Nat) (sh : Nat → qC) (Rf : Nat → Nat → Option Nat) (I : Nat → Nat → Int32) (L : Nat → Nat → Int64) (post : Option Value → qS → Prop) (x1 : Int32) : Prop :=
  Ev (qGG D cA b E) mModel_choose 7 (0, 0) 0 (lv_args 0 [.ref o, .int x1]) [] (n, sh, Rf, I, L) (fun v τ => ∃ (I3 : Nat → Nat → Int32) (L4 : Nat → Nat → Int64), v = none ∧ τ = (n, sh, Rf, I3, L4) ∧ vp_in x1 6 ∧ ∀ I5 : Nat → Nat → Int32, q_u I3 (o + 70) (x1 : Int32).toNatClampNeg (I3 o 122) = I5 → vp_in x1 6 ∧ ∀ L7 : Nat → Nat → Int64, q_u L4 (o + 69) (x1 : Int32).toNatClampNeg (L4 o 128) = L7 → (((I5 o 122) = (1 : Int32) → Ev (qGG D cA b E) mModel_townAt 0 (0, 0) 0 (lv_args 0 [.ref o, .int ((I5 o 124))]) [] (n, sh, Rf, I5, L7) (fun v τ => ∃ (r10 : Int32) (I11 : Nat → Nat → Int32) (L12 : Nat → Nat → Int64), v = some (.int r10) ∧ τ = (n, sh, Rf, I11, L12) ∧ Ev (qGG D cA b E) mModel_fortAt 0 (0, 0) 0 (lv_args 0 [.ref o, .int ((I11 o 123))]) [] (n, sh, Rf, I11, L12) (fun v τ => ∃ (r14 : Int32) (I15 : Nat → Nat → Int32) (L16 : Nat → Nat → Int64), v = some (.int r14) ∧ τ = (n, sh, Rf, I15, L16) ∧ vp_in ((16 * r10) + r14) 256 ∧ vp_in x1 6 ∧ vp_in ((5 * (I15 o 34)) + (I15 o 124)) 10 ∧ vp_in x1 6 ∧ ∀ L20 : Nat → Nat → Int64, q_u L16 (o + 68) (x1 : Int32).toNatClampNeg ((L16 (o + 68) (x1 : Int32).toNatClampNeg) - (((I15 o 125) : Int32).toInt64 * (((10 * (I15 (o + 24) (((5 * (I15 o 34)) + (I15 o 124)) : Int32).toNatClampNeg)) + ((I15 (o + 25) (((16 * r10) + r14) : Int32).toNatClampNeg) * (I15 o 69))) : Int32).toInt64)) = L20 → vp_in (I15 o 124) 5 ∧ vp_in (I15 o 124) 5 ∧ ∀ I23 : Nat → Nat → Int32, q_u I15 (o + 46) ((I15 o 124) : Int32).toNatClampNeg ((I15 (o + 46) ((I15 o 124) : Int32).toNatClampNeg) - (10 * (I15 o 125))) = I23 → Ev (qGG D cA b E) mModel_send 1 (0, 0) 0 (lv_args 0 [.ref o, .int x1, .int ((I15 (o + 25) (((16 * r10) + r14) : Int32).toNatClampNeg)), .int 0, .int ((I23 o 123)), .int ((I23 o 125)), .int (((I23 o 125) * (I23 o 126))), .int ((I23 o 127))]) [] (n, sh, Rf, I23, L20) (fun v τ => ∃ (I27 : Nat → Nat → Int32) (L28 : Nat → Nat → Int64), v = none ∧ τ = (n, sh, Rf, I27, L28) ∧ post none (n, sh, Rf, I27, L28))))) ∧ (¬ (I5 o 122) = (1 : Int32) → (((I5 o 122) = (2 : Int32) → vp_in x1 6 ∧ vp_in x1 6 ∧ ∀ L30 : Nat → Nat → Int64, q_u L7 (o + 68) (x1 : Int32).toNatClampNeg ((L7 (o + 68) (x1 : Int32).toNatClampNeg) - (((I5 o 125) : Int32).toInt64 * ((I5 o 73) : Int32).toInt64)) = L30 → vp_in (I5 o 123) 3 ∧ vp_in (I5 o 123) 3 ∧ ∀ I33 : Nat → Nat → Int32, q_u I5 (o + 42) ((I5 o 123) : Int32).toNatClampNeg ((I5 (o + 42) ((I5 o 123) : Int32).toNatClampNeg) + (10 * (I5 o 125))) = I33 → Ev (qGG D cA b E) mModel_give 2 (0, 0) 0 (lv_args 0 [.ref o, .int x1, .int ((I33 o 127)), .int (((I33 o 125) * (I33 o 126))), .int 0, .int 0]) [] (n, sh, Rf, I33, L30) (fun v τ => ∃ (I37 : Nat → Nat → Int32) (L38 : Nat → Nat → Int64), v = none ∧ τ = (n, sh, Rf, I37, L38) ∧ post none (n, sh, Rf, I37, L38))) ∧ (¬ (I5 o 122) = (2 : Int32) → (((I5 o 122) = (3 : Int32) → vp_in x1 6 ∧ vp_in x1 6 ∧ ∀ L40 : Nat → Nat → Int64, q_u L7 (o + 68) (x1 : Int32).toNatClampNeg ((L7 (o + 68) (x1 : Int32).toNatClampNeg) - ((I5 o 72) : Int32).toInt64) = L40 → vp_in ((3 * x1) + (I5 o 123)) 18 ∧ ∀ I42 : Nat → Nat → Int32, q_u I5 (o + 48) (((3 * x1) + (I5 o 123)) : Int32).toNatClampNeg (I5 o 57) = I42 → post none (n, sh, Rf, I42, L40)) ∧ (¬ (I5 o 122) = (3 : Int32) → (((I5 o 122) = (4 : Int32) → vp_in x1 6 ∧ vp_in x1 6 ∧ ∀ L45 : Nat → Nat → Int64, q_u L7 (o + 68) (x1 : Int32).toNatClampNeg ((L7 (o + 68) (x1 : Int32).toNatClampNeg) - ((10 * ((I5 o 125) : Int32).toInt64) * ((I5 o 107) : Int32).toInt64)) = L45 → ∀ L47 : Nat → Nat → Int64, q_u L45 o 114 ((L45 o 114) + ((10 * ((I5 o 125) : Int32).toInt64) * ((I5 o 107) : Int32).toInt64)) = L47 → ∀ I48 : Nat → Nat → Int32, q_u I5 o 111 ((I5 o 111) - (10 * (I5 o 125))) = I48 → Ev (qGG D cA b E) mModel_give 2 (0, 0) 0 (lv_args 0 [.ref o, .int x1, .int ((I48 o 127)), .int ((10 * (I48 o 125))), .int 0, .int 1]) [] (n, sh, Rf, I48, L47) (fun v τ => ∃ (I51 : Nat → Nat → Int32) (L52 : Nat → Nat → Int64), v = none ∧ τ = (n, sh, Rf, I51, L52) ∧ post none (n, sh, Rf, I51, L52))) ∧ (¬ (I5 o 122) = (4 : Int32) → post none (n, sh, Rf, I5, L7))))))))))
set_option maxHeartbeats 4000000 in
set_option maxRecDepth 20000 in
theorem sModel_act_0 {D : va_G} {cA : FieldType → ClassId} {b : Nat} {E : State → Prop} (o : Nat) (n : Nat) (sh : Nat → qC) (Rf : Nat → Nat → Option Nat) (I : Nat → Nat → Int32) (L : Nat → Nat → Int64) (post : Option Value → qS → Prop) (x1 : Int32) (hok : q_ok (qGG D cA b E)) (hw : WfModel (qGG D cA b E) n sh Rf o) (H : fModel_act_0 D cA b E o n sh Rf I L post x1) : Ev (qGG D cA b E) mModel_act 8 (0, 0) 0 [(0, .ref o), (1, .int x1)] [] (n, sh, Rf, I, L) post := by
  unfold fModel_act_0 at H
  refine ev_aload_n dModel_act_0 rfl ?_
  refine ev_iload_n dModel_act_1 rfl ?_
  refine ev_callV [.int x1] [] (B' := (0, 0)) (B'' := (0, 0)) hok mmModel_choose mk_Model_685 (ci := 12) rfl rfl (woModel hw) rfl (Nat.le_of_ble_eq_true rfl) rfl (Nat.le_of_ble_eq_true rfl) dModel_act_2 rfl (by decide) H (fun v τ p1 => ?_)
  obtain ⟨I3, L4, rfl, rfl, H⟩ := p1
  refine ev_aload_n dModel_act_5 rfl ?_
  refine ev_getR hok fk_Model_688 (woModel hw) (fun _ _ _ => rfl) (wrModel_103 hw) dModel_act_6 ?_
  refine ev_iload_n dModel_act_9 rfl ?_
  refine ev_aload_n dModel_act_10 rfl ?_
  refine ev_getI hok fk_Model_636 (woModel hw) (fun _ _ _ => rfl) dModel_act_11 ?_
  obtain ⟨h6, H⟩ := H
  refine ev_iast hok (waModel_103 hw) h6 dModel_act_14 ?_
  generalize eI5 : q_u I3 (o + 70) (x1 : Int32).toNatClampNeg (I3 o 122) = I5
  have H := H I5 eI5
  refine ev_aload_n dModel_act_15 rfl ?_
  refine ev_getR hok fk_Model_691 (woModel hw) (fun _ _ _ => rfl) (wrModel_102 hw) dModel_act_16 ?_
  refine ev_iload_n dModel_act_19 rfl ?_
  refine ev_aload_n dModel_act_20 rfl ?_
  refine ev_getL hok fk_Model_633 (woModel hw) (fun _ _ _ => rfl) dModel_act_21 ?_
  obtain ⟨h8, H⟩ := H
  refine ev_last hok (waModel_102 hw) h8 dModel_act_24 ?_
  generalize eL7 : q_u L4 (o + 69) (x1 : Int32).toNatClampNeg (L4 o 128) = L7
  have H := H L7 eL7
  refine ev_aload_n dModel_act_25 rfl ?_
  refine ev_getI hok fk_Model_636 (woModel hw) (fun _ _ _ => rfl) dModel_act_26 ?_
  rcases q_em ((I5 o 122) = (1)) with c0 | c0
  · have H := H.1 c0
    refine ev_tableIn 60 dModel_act_29 (by rw [c0]; decide) (by rw [c0]; decide) (off := 31) (by rw [c0]; rfl) (by decide) ?_
    refine ev_aload_n dModel_act_60 rfl ?_
    refine ev_getR hok fk_Model_269 (woModel hw) (fun _ _ _ => rfl) (wrModel_36 hw) dModel_act_61 ?_
    refine ev_bipush (16) dModel_act_64 (by decide) ?_
    refine ev_aload_n dModel_act_66 rfl ?_
    refine ev_aload_n dModel_act_67 rfl ?_
    refine ev_getI hok fk_Model_642 (woModel hw) (fun _ _ _ => rfl) dModel_act_68 ?_
    refine ev_callV [.int ((I5 o 124))] [.int 16, .ref ((o + 25))] (B' := (0, 0)) (B'' := (0, 0)) hok mmModel_townAt mk_Model_494 (ci := 12) rfl rfl (woModel hw) rfl (Nat.le_of_ble_eq_true rfl) rfl (Nat.le_of_ble_eq_true rfl) dModel_act_71 rfl (by decide) H (fun v τ p9 => ?_)
    obtain ⟨r10, I11, L12, rfl, rfl, H⟩ := p9
    refine ev_imul dModel_act_74 ?_
    refine ev_aload_n dModel_act_75 rfl ?_
    refine ev_aload_n dModel_act_76 rfl ?_
    refine ev_getI hok fk_Model_639 (woModel hw) (fun _ _ _ => rfl) dModel_act_77 ?_
    refine ev_callV [.int ((I11 o 123))] [.int ((16 * r10)), .ref ((o + 25))] (B' := (0, 0)) (B'' := (0, 0)) hok mmModel_fortAt mk_Model_661 (ci := 12) rfl rfl (woModel hw) rfl (Nat.le_of_ble_eq_true rfl) rfl (Nat.le_of_ble_eq_true rfl) dModel_act_80 rfl (by decide) H (fun v τ p13 => ?_)
    obtain ⟨r14, I15, L16, rfl, rfl, H⟩ := p13
    refine ev_iadd dModel_act_83 ?_
    obtain ⟨h17, H⟩ := H
    refine ev_iald hok (waModel_36 hw) h17 dModel_act_84 ?_
    refine ev_istore_n dModel_act_85 (by decide) ?_
    refine ev_aload_n dModel_act_86 rfl ?_
    refine ev_getR hok fk_Model_578 (woModel hw) (fun _ _ _ => rfl) (wrModel_101 hw) dModel_act_87 ?_
    refine ev_iload_n dModel_act_90 rfl ?_
    refine ev_dup2_11 dModel_act_91 rfl rfl ?_
    obtain ⟨h18, H⟩ := H
    refine ev_lald hok (waModel_101 hw) h18 dModel_act_92 ?_
    refine ev_aload_n dModel_act_93 rfl ?_
    refine ev_getI hok fk_Model_645 (woModel hw) (fun _ _ _ => rfl) dModel_act_94 ?_
    refine ev_i2l dModel_act_97 ?_
    refine ev_bipush (10) dModel_act_98 (by decide) ?_
    refine ev_aload_n dModel_act_100 rfl ?_
    refine ev_getR hok fk_Model_266 (woModel hw) (fun _ _ _ => rfl) (wrModel_33 hw) dModel_act_101 ?_
    refine ev_iconst (5) dModel_act_104 (by decide) ?_
    refine ev_aload_n dModel_act_105 rfl ?_
    refine ev_getI hok fk_Model_147 (woModel hw) (fun _ _ _ => rfl) dModel_act_106 ?_
    refine ev_imul dModel_act_109 ?_
    refine ev_aload_n dModel_act_110 rfl ?_
    refine ev_getI hok fk_Model_642 (woModel hw) (fun _ _ _ => rfl) dModel_act_111 ?_
    refine ev_iadd dModel_act_114 ?_
    obtain ⟨h19, H⟩ := H
    refine ev_iald hok (waModel_33 hw) h19 dModel_act_115 ?_
    refine ev_imul dModel_act_116 ?_
    refine ev_iload_n dModel_act_117 rfl ?_
    refine ev_aload_n dModel_act_118 rfl ?_
    refine ev_getI hok fk_Model_397 (woModel hw) (fun _ _ _ => rfl) dModel_act_119 ?_
    refine ev_imul dModel_act_122 ?_
    refine ev_iadd dModel_act_123 ?_
    refine ev_i2l dModel_act_124 ?_
    refine ev_lmul dModel_act_125 ?_
    refine ev_lsub dModel_act_126 ?_
    obtain ⟨h21, H⟩ := H
    refine ev_last hok (waModel_101 hw) h21 dModel_act_127 ?_
    generalize eL20 : q_u L16 (o + 68) (x1 : Int32).toNatClampNeg ((L16 (o + 68) (x1 : Int32).toNatClampNeg) - (((I15 o 125) : Int32).toInt64 * (((10 * (I15 (o + 24) (((5 * (I15 o 34)) + (I15 o 124)) : Int32).toNatClampNeg)) + ((I15 (o + 25) (((16 * r10) + r14) : Int32).toNatClampNeg) * (I15 o 69))) : Int32).toInt64)) = L20
    have H := H L20 eL20
    refine ev_aload_n dModel_act_128 rfl ?_
    refine ev_getR hok fk_Model_664 (woModel hw) (fun _ _ _ => rfl) (wrModel_79 hw) dModel_act_129 ?_
    refine ev_aload_n dModel_act_132 rfl ?_
    refine ev_getI hok fk_Model_642 (woModel hw) (fun _ _ _ => rfl) dModel_act_133 ?_
    refine ev_dup2_11 dModel_act_136 rfl rfl ?_
    obtain ⟨h22, H⟩ := H
    refine ev_iald hok (waModel_79 hw) h22 dModel_act_137 ?_
    refine ev_bipush (10) dModel_act_138 (by decide) ?_
    refine ev_aload_n dModel_act_140 rfl ?_
    refine ev_getI hok fk_Model_645 (woModel hw) (fun _ _ _ => rfl) dModel_act_141 ?_
    refine ev_imul dModel_act_144 ?_
    refine ev_isub dModel_act_145 ?_
    obtain ⟨h24, H⟩ := H
    refine ev_iast hok (waModel_79 hw) h24 dModel_act_146 ?_
    generalize eI23 : q_u I15 (o + 46) ((I15 o 124) : Int32).toNatClampNeg ((I15 (o + 46) ((I15 o 124) : Int32).toNatClampNeg) - (10 * (I15 o 125))) = I23
    have H := H I23 eI23
    refine ev_aload_n dModel_act_147 rfl ?_
    refine ev_iload_n dModel_act_148 rfl ?_
    refine ev_iload_n dModel_act_149 rfl ?_
    refine ev_iconst (0) dModel_act_150 (by decide) ?_
    refine ev_aload_n dModel_act_151 rfl ?_
    refine ev_getI hok fk_Model_639 (woModel hw) (fun _ _ _ => rfl) dModel_act_152 ?_
    refine ev_aload_n dModel_act_155 rfl ?_
    refine ev_getI hok fk_Model_645 (woModel hw) (fun _ _ _ => rfl) dModel_act_156 ?_
    refine ev_aload_n dModel_act_159 rfl ?_
    refine ev_getI hok fk_Model_645 (woModel hw) (fun _ _ _ => rfl) dModel_act_160 ?_
    refine ev_aload_n dModel_act_163 rfl ?_
    refine ev_getI hok fk_Model_648 (woModel hw) (fun _ _ _ => rfl) dModel_act_164 ?_
    refine ev_imul dModel_act_167 ?_
    refine ev_aload_n dModel_act_168 rfl ?_
    refine ev_getI hok fk_Model_658 (woModel hw) (fun _ _ _ => rfl) dModel_act_169 ?_
    refine ev_callV [.int x1, .int ((I15 (o + 25) (((16 * r10) + r14) : Int32).toNatClampNeg)), .int 0, .int ((I23 o 123)), .int ((I23 o 125)), .int (((I23 o 125) * (I23 o 126))), .int ((I23 o 127))] [] (B' := (0, 0)) (B'' := (0, 0)) hok mmModel_send mk_Model_620 (ci := 12) rfl rfl (woModel hw) rfl (Nat.le_of_ble_eq_true rfl) rfl (Nat.le_of_ble_eq_true rfl) dModel_act_172 rfl (by decide) H (fun v τ p25 => ?_)
    obtain ⟨I27, L28, rfl, rfl, H⟩ := p25
    refine ev_goto 359 dModel_act_175 (by decide) ?_
    exact ev_vret rfl dModel_act_359 H
  have H := H.2 c0
  rcases q_em ((I5 o 122) = (2)) with c1 | c1
  · have H := H.1 c1
    refine ev_tableIn 178 dModel_act_29 (by rw [c1]; decide) (by rw [c1]; decide) (off := 149) (by rw [c1]; rfl) (by decide) ?_
    refine ev_aload_n dModel_act_178 rfl ?_
    refine ev_getR hok fk_Model_578 (woModel hw) (fun _ _ _ => rfl) (wrModel_101 hw) dModel_act_179 ?_
    refine ev_iload_n dModel_act_182 rfl ?_
    refine ev_dup2_11 dModel_act_183 rfl rfl ?_
    obtain ⟨h29, H⟩ := H
    refine ev_lald hok (waModel_101 hw) h29 dModel_act_184 ?_
    refine ev_aload_n dModel_act_185 rfl ?_
    refine ev_getI hok fk_Model_645 (woModel hw) (fun _ _ _ => rfl) dModel_act_186 ?_
    refine ev_i2l dModel_act_189 ?_
    refine ev_aload_n dModel_act_190 rfl ?_
    refine ev_getI hok fk_Model_409 (woModel hw) (fun _ _ _ => rfl) dModel_act_191 ?_
    refine ev_i2l dModel_act_194 ?_
    refine ev_lmul dModel_act_195 ?_
    refine ev_lsub dModel_act_196 ?_
    obtain ⟨h31, H⟩ := H
    refine ev_last hok (waModel_101 hw) h31 dModel_act_197 ?_
    generalize eL30 : q_u L7 (o + 68) (x1 : Int32).toNatClampNeg ((L7 (o + 68) (x1 : Int32).toNatClampNeg) - (((I5 o 125) : Int32).toInt64 * ((I5 o 73) : Int32).toInt64)) = L30
    have H := H L30 eL30
    refine ev_aload_n dModel_act_198 rfl ?_
    refine ev_getR hok fk_Model_513 (woModel hw) (fun _ _ _ => rfl) (wrModel_75 hw) dModel_act_199 ?_
    refine ev_aload_n dModel_act_202 rfl ?_
    refine ev_getI hok fk_Model_639 (woModel hw) (fun _ _ _ => rfl) dModel_act_203 ?_
    refine ev_dup2_11 dModel_act_206 rfl rfl ?_
    obtain ⟨h32, H⟩ := H
    refine ev_iald hok (waModel_75 hw) h32 dModel_act_207 ?_
    refine ev_bipush (10) dModel_act_208 (by decide) ?_
    refine ev_aload_n dModel_act_210 rfl ?_
    refine ev_getI hok fk_Model_645 (woModel hw) (fun _ _ _ => rfl) dModel_act_211 ?_
    refine ev_imul dModel_act_214 ?_
    refine ev_iadd dModel_act_215 ?_
    obtain ⟨h34, H⟩ := H
    refine ev_iast hok (waModel_75 hw) h34 dModel_act_216 ?_
    generalize eI33 : q_u I5 (o + 42) ((I5 o 123) : Int32).toNatClampNeg ((I5 (o + 42) ((I5 o 123) : Int32).toNatClampNeg) + (10 * (I5 o 125))) = I33
    have H := H I33 eI33
    refine ev_aload_n dModel_act_217 rfl ?_
    refine ev_iload_n dModel_act_218 rfl ?_
    refine ev_aload_n dModel_act_219 rfl ?_
    refine ev_getI hok fk_Model_658 (woModel hw) (fun _ _ _ => rfl) dModel_act_220 ?_
    refine ev_aload_n dModel_act_223 rfl ?_
    refine ev_getI hok fk_Model_645 (woModel hw) (fun _ _ _ => rfl) dModel_act_224 ?_
    refine ev_aload_n dModel_act_227 rfl ?_
    refine ev_getI hok fk_Model_648 (woModel hw) (fun _ _ _ => rfl) dModel_act_228 ?_
    refine ev_imul dModel_act_231 ?_
    refine ev_iconst (0) dModel_act_232 (by decide) ?_
    refine ev_iconst (0) dModel_act_233 (by decide) ?_
    refine ev_callV [.int x1, .int ((I33 o 127)), .int (((I33 o 125) * (I33 o 126))), .int 0, .int 0] [] (B' := (0, 0)) (B'' := (0, 0)) hok mmModel_give mk_Model_600 (ci := 12) rfl rfl (woModel hw) rfl (Nat.le_of_ble_eq_true rfl) rfl (Nat.le_of_ble_eq_true rfl) dModel_act_234 rfl (by decide) H (fun v τ p35 => ?_)
    obtain ⟨I37, L38, rfl, rfl, H⟩ := p35
    refine ev_goto 359 dModel_act_237 (by decide) ?_
    exact ev_vret rfl dModel_act_359 H
  have H := H.2 c1
  rcases q_em ((I5 o 122) = (3)) with c2 | c2
  · have H := H.1 c2
    refine ev_tableIn 240 dModel_act_29 (by rw [c2]; decide) (by rw [c2]; decide) (off := 211) (by rw [c2]; rfl) (by decide) ?_
    refine ev_aload_n dModel_act_240 rfl ?_
    refine ev_getR hok fk_Model_578 (woModel hw) (fun _ _ _ => rfl) (wrModel_101 hw) dModel_act_241 ?_
    refine ev_iload_n dModel_act_244 rfl ?_
    refine ev_dup2_11 dModel_act_245 rfl rfl ?_
    obtain ⟨h39, H⟩ := H
    refine ev_lald hok (waModel_101 hw) h39 dModel_act_246 ?_
    refine ev_aload_n dModel_act_247 rfl ?_
    refine ev_getI hok fk_Model_406 (woModel hw) (fun _ _ _ => rfl) dModel_act_248 ?_
    refine ev_i2l dModel_act_251 ?_
    refine ev_lsub dModel_act_252 ?_
    obtain ⟨h41, H⟩ := H
    refine ev_last hok (waModel_101 hw) h41 dModel_act_253 ?_
    generalize eL40 : q_u L7 (o + 68) (x1 : Int32).toNatClampNeg ((L7 (o + 68) (x1 : Int32).toNatClampNeg) - ((I5 o 72) : Int32).toInt64) = L40
    have H := H L40 eL40
    refine ev_aload_n dModel_act_254 rfl ?_
    refine ev_getR hok fk_Model_584 (woModel hw) (fun _ _ _ => rfl) (wrModel_81 hw) dModel_act_255 ?_
    refine ev_iconst (3) dModel_act_258 (by decide) ?_
    refine ev_iload_n dModel_act_259 rfl ?_
    refine ev_imul dModel_act_260 ?_
    refine ev_aload_n dModel_act_261 rfl ?_
    refine ev_getI hok fk_Model_639 (woModel hw) (fun _ _ _ => rfl) dModel_act_262 ?_
    refine ev_iadd dModel_act_265 ?_
    refine ev_aload_n dModel_act_266 rfl ?_
    refine ev_getI hok fk_Model_348 (woModel hw) (fun _ _ _ => rfl) dModel_act_267 ?_
    obtain ⟨h43, H⟩ := H
    refine ev_iast hok (waModel_81 hw) h43 dModel_act_270 ?_
    generalize eI42 : q_u I5 (o + 48) (((3 * x1) + (I5 o 123)) : Int32).toNatClampNeg (I5 o 57) = I42
    have H := H I42 eI42
    refine ev_goto 359 dModel_act_271 (by decide) ?_
    exact ev_vret rfl dModel_act_359 H
  have H := H.2 c2
  rcases q_em ((I5 o 122) = (4)) with c3 | c3
  · have H := H.1 c3
    refine ev_tableIn 274 dModel_act_29 (by rw [c3]; decide) (by rw [c3]; decide) (off := 245) (by rw [c3]; rfl) (by decide) ?_
    refine ev_aload_n dModel_act_274 rfl ?_
    refine ev_getR hok fk_Model_578 (woModel hw) (fun _ _ _ => rfl) (wrModel_101 hw) dModel_act_275 ?_
    refine ev_iload_n dModel_act_278 rfl ?_
    refine ev_dup2_11 dModel_act_279 rfl rfl ?_
    obtain ⟨h44, H⟩ := H
    refine ev_lald hok (waModel_101 hw) h44 dModel_act_280 ?_
    refine ev_ldc2 (10) dModel_act_281 (q_t8 123 (by decide +kernel) rfl) ?_
    refine ev_aload_n dModel_act_284 rfl ?_
    refine ev_getI hok fk_Model_645 (woModel hw) (fun _ _ _ => rfl) dModel_act_285 ?_
    refine ev_i2l dModel_act_288 ?_
    refine ev_lmul dModel_act_289 ?_
    refine ev_aload_n dModel_act_290 rfl ?_
    refine ev_getI hok fk_Model_588 (woModel hw) (fun _ _ _ => rfl) dModel_act_291 ?_
    refine ev_i2l dModel_act_294 ?_
    refine ev_lmul dModel_act_295 ?_
    refine ev_lsub dModel_act_296 ?_
    obtain ⟨h46, H⟩ := H
    refine ev_last hok (waModel_101 hw) h46 dModel_act_297 ?_
    generalize eL45 : q_u L7 (o + 68) (x1 : Int32).toNatClampNeg ((L7 (o + 68) (x1 : Int32).toNatClampNeg) - ((10 * ((I5 o 125) : Int32).toInt64) * ((I5 o 107) : Int32).toInt64)) = L45
    have H := H L45 eL45
    refine ev_aload_n dModel_act_298 rfl ?_
    refine ev_dup dModel_act_299 rfl ?_
    refine ev_getL hok fk_Model_581 (woModel hw) (fun _ _ _ => rfl) dModel_act_300 ?_
    refine ev_ldc2 (10) dModel_act_303 (q_t8 123 (by decide +kernel) rfl) ?_
    refine ev_aload_n dModel_act_306 rfl ?_
    refine ev_getI hok fk_Model_645 (woModel hw) (fun _ _ _ => rfl) dModel_act_307 ?_
    refine ev_i2l dModel_act_310 ?_
    refine ev_lmul dModel_act_311 ?_
    refine ev_aload_n dModel_act_312 rfl ?_
    refine ev_getI hok fk_Model_588 (woModel hw) (fun _ _ _ => rfl) dModel_act_313 ?_
    refine ev_i2l dModel_act_316 ?_
    refine ev_lmul dModel_act_317 ?_
    refine ev_ladd dModel_act_318 ?_
    refine ev_putL hok fk_Model_581 (woModel hw) (fun _ _ _ => rfl) rfl rfl dModel_act_319 ?_
    generalize eL47 : q_u L45 o 114 ((L45 o 114) + ((10 * ((I5 o 125) : Int32).toInt64) * ((I5 o 107) : Int32).toInt64)) = L47
    have H := H L47 eL47
    refine ev_aload_n dModel_act_322 rfl ?_
    refine ev_dup dModel_act_323 rfl ?_
    refine ev_getI hok fk_Model_680 (woModel hw) (fun _ _ _ => rfl) dModel_act_324 ?_
    refine ev_bipush (10) dModel_act_327 (by decide) ?_
    refine ev_aload_n dModel_act_329 rfl ?_
    refine ev_getI hok fk_Model_645 (woModel hw) (fun _ _ _ => rfl) dModel_act_330 ?_
    refine ev_imul dModel_act_333 ?_
    refine ev_isub dModel_act_334 ?_
    refine ev_putI hok fk_Model_680 (woModel hw) (fun _ _ _ => rfl) rfl rfl dModel_act_335 ?_
    generalize eI48 : q_u I5 o 111 ((I5 o 111) - (10 * (I5 o 125))) = I48
    have H := H I48 eI48
    refine ev_aload_n dModel_act_338 rfl ?_
    refine ev_iload_n dModel_act_339 rfl ?_
    refine ev_aload_n dModel_act_340 rfl ?_
    refine ev_getI hok fk_Model_658 (woModel hw) (fun _ _ _ => rfl) dModel_act_341 ?_
    refine ev_bipush (10) dModel_act_344 (by decide) ?_
    refine ev_aload_n dModel_act_346 rfl ?_
    refine ev_getI hok fk_Model_645 (woModel hw) (fun _ _ _ => rfl) dModel_act_347 ?_
    refine ev_imul dModel_act_350 ?_
    refine ev_iconst (0) dModel_act_351 (by decide) ?_
    refine ev_iconst (1) dModel_act_352 (by decide) ?_
    refine ev_callV [.int x1, .int ((I48 o 127)), .int ((10 * (I48 o 125))), .int 0, .int 1] [] (B' := (0, 0)) (B'' := (0, 0)) hok mmModel_give mk_Model_600 (ci := 12) rfl rfl (woModel hw) rfl (Nat.le_of_ble_eq_true rfl) rfl (Nat.le_of_ble_eq_true rfl) dModel_act_353 rfl (by decide) H (fun v τ p49 => ?_)
    obtain ⟨I51, L52, rfl, rfl, H⟩ := p49
    refine ev_goto 359 dModel_act_356 (by decide) ?_
    exact ev_vret rfl dModel_act_359 H
  have H := H.2 c3
  refine ev_tableOut 359 dModel_act_29 (by have e0 : (1 : Int) ≠ ((I5 o 122) : Int32).toInt := fun h => c0 (Int32.toInt_inj.mp (h.symm.trans (by decide))); have e1 : (2 : Int) ≠ ((I5 o 122) : Int32).toInt := fun h => c1 (Int32.toInt_inj.mp (h.symm.trans (by decide))); have e2 : (3 : Int) ≠ ((I5 o 122) : Int32).toInt := fun h => c2 (Int32.toInt_inj.mp (h.symm.trans (by decide))); have e3 : (4 : Int) ≠ ((I5 o 122) : Int32).toInt := fun h => c3 (Int32.toInt_inj.mp (h.symm.trans (by decide))); omega) (by decide) ?_
  exact ev_vret rfl dModel_act_359 H
def fModel_way_0 (D : va_G) (cA : FieldType → ClassId) (b : Nat) (E : State → Prop) (o : Nat) (n : Nat) (sh : Nat → qC) (Rf : Nat → Nat → Option Nat) (I : Nat → Nat → Int32) (L : Nat → Nat → Int64) (post : Option Value → qS → Prop) (x1 : Int32) (x2 : Int32) : Prop :=
  (((I o 135) = 0 → post (some (.long ((-1)))) (n, sh, Rf, I, L)) ∧ (¬ (I o 135) = 0 → Ev (qGG D cA b E) mModel_isIn 0 (0, 0) 0 (lv_args 0 [.int x1, .int 0, .int (((I o 137) - 1))]) [] (n, sh, Rf, I, L) (fun v τ => ∃ (r3 : Int32) (I4 : Nat → Nat → Int32) (L5 : Nat → Nat → Int64), v = some (.int r3) ∧ τ = (n, sh, Rf, I4, L5) ∧ ((¬ r3 = 0 → Ev (qGG D cA b E) mModel_goOn 7 (0, 0) 0 (lv_args 0 [.ref o]) [] (n, sh, Rf, I4, L5) (fun v τ => ∃ (I9 : Nat → Nat → Int32) (L10 : Nat → Nat → Int64), v = none ∧ τ = (n, sh, Rf, I9, L10) ∧ Ev (qGG D cA b E) mModel_isDead 0 (0, 0) 0 (lv_args 0 [.ref o, .int x1]) [] (n, sh, Rf, I9, L10) (fun v τ => ∃ (r12 : Int32) (I13 : Nat → Nat → Int32) (L14 : Nat → Nat → Int64), v = some (.int r12) ∧ τ = (n, sh, Rf, I13, L14) ∧ ((r12 = 0 → Ev (qGG D cA b E) mModel_choose 7 (0, 0) 0 (lv_args 0 [.ref o, .int x1]) [] (n, sh, Rf, I13, L14) (fun v τ => ∃ (I18 : Nat → Nat → Int32) (L19 : Nat → Nat → Int64), v = none ∧ τ = (n, sh, Rf, I18, L19) ∧ ((x2 = (0 : Int32) → post (some (.long (((I18 o 122) : Int32).toInt64))) (n, sh, Rf, I18, L19)) ∧ (¬ x2 = (0 : Int32) → ((x2 = (1 : Int32) → post (some (.long (((I18 o 123) : Int32).toInt64))) (n, sh, Rf, I18, L19)) ∧ (¬ x2 = (1 : Int32) → ((x2 = (2 : Int32) → post (some (.long (((I18 o 124) : Int32).toInt64))) (n, sh, Rf, I18, L19)) ∧ (¬ x2 = (2 : Int32) → ((x2 = (3 : Int32) → post (some (.long (((I18 o 125) : Int32).toInt64))) (n, sh, Rf, I18, L19)) ∧ (¬ x2 = (3 : Int32) → ((x2 = (4 : Int32) → post (some (.long ((L19 o 128)))) (n, sh, Rf, I18, L19)) ∧ (¬ x2 = (4 : Int32) → post (some (.long ((-1)))) (n, sh, Rf, I18, L19))))))))))))) ∧ (¬ r12 = 0 → post (some (.long ((-1)))) (n, sh, Rf, I13, L14)))))) ∧ (r3 = 0 → post (some (.long ((-1)))) (n, sh, Rf, I4, L5))))))
set_option maxHeartbeats 4000000 in
set_option maxRecDepth 20000 in
theorem sModel_way_0 {D : va_G} {cA : FieldType → ClassId} {b : Nat} {E : State → Prop} (o : Nat) (n : Nat) (sh : Nat → qC) (Rf : Nat → Nat → Option Nat) (I : Nat → Nat → Int32) (L : Nat → Nat → Int64) (post : Option Value → qS → Prop) (x1 : Int32) (x2 : Int32) (hok : q_ok (qGG D cA b E)) (hw : WfModel (qGG D cA b E) n sh Rf o) (H : fModel_way_0 D cA b E o n sh Rf I L post x1 x2) : Ev (qGG D cA b E) mModel_way 8 (0, 0) 0 [(0, .ref o), (1, .int x1), (2, .int x2)] [] (n, sh, Rf, I, L) post := by
  unfold fModel_way_0 at H
  refine ev_aload_n dModel_way_0 rfl ?_
  refine ev_getI hok fk_Model_172 (woModel hw) (fun _ _ _ => rfl) dModel_way_1 ?_
  refine ev_if_eq 21 dModel_way_4 (by decide) (fun c1 => ?_) (fun c1 => ?_)
  · have H := H.1 c1
    refine ev_ldc2 (-1) dModel_way_21 (q_t8 153 (by decide +kernel) rfl) ?_
    exact ev_lret rfl dModel_way_24 H
  · have H := H.2 c1
    refine ev_iload_n dModel_way_7 rfl ?_
    refine ev_iconst (0) dModel_way_8 (by decide) ?_
    refine ev_aload_n dModel_way_9 rfl ?_
    refine ev_getI hok fk_Model_769 (woModel hw) (fun _ _ _ => rfl) dModel_way_10 ?_
    refine ev_iconst (1) dModel_way_13 (by decide) ?_
    refine ev_isub dModel_way_14 ?_
    refine ev_callS [.int x1, .int 0, .int (((I o 137) - 1))] [] (B' := (0, 0)) (B'' := (0, 0)) hok mmModel_isIn mk_Model_393 rfl (Nat.le_of_ble_eq_true rfl) rfl (Nat.le_of_ble_eq_true rfl) dModel_way_15 rfl (by decide) H (fun v τ p2 => ?_)
    obtain ⟨r3, I4, L5, rfl, rfl, H⟩ := p2
    refine ev_if_ne 25 dModel_way_18 (by decide) (fun c6 => ?_) (fun c6 => ?_)
    · have H := H.1 c6
      refine ev_aload_n dModel_way_25 rfl ?_
      refine ev_callV [] [] (B' := (0, 0)) (B'' := (0, 0)) hok mmModel_goOn mk_Model_783 (ci := 12) rfl rfl (woModel hw) rfl (Nat.le_of_ble_eq_true rfl) rfl (Nat.le_of_ble_eq_true rfl) dModel_way_26 rfl (by decide) H (fun v τ p7 => ?_)
      obtain ⟨I9, L10, rfl, rfl, H⟩ := p7
      refine ev_aload_n dModel_way_29 rfl ?_
      refine ev_iload_n dModel_way_30 rfl ?_
      refine ev_callV [.int x1] [] (B' := (0, 0)) (B'' := (0, 0)) hok mmModel_isDead mk_Model_733 (ci := 12) rfl rfl (woModel hw) rfl (Nat.le_of_ble_eq_true rfl) rfl (Nat.le_of_ble_eq_true rfl) dModel_way_31 rfl (by decide) H (fun v τ p11 => ?_)
      obtain ⟨r12, I13, L14, rfl, rfl, H⟩ := p11
      refine ev_if_eq 41 dModel_way_34 (by decide) (fun c15 => ?_) (fun c15 => ?_)
      · have H := H.1 c15
        refine ev_aload_n dModel_way_41 rfl ?_
        refine ev_iload_n dModel_way_42 rfl ?_
        refine ev_callV [.int x1] [] (B' := (0, 0)) (B'' := (0, 0)) hok mmModel_choose mk_Model_685 (ci := 12) rfl rfl (woModel hw) rfl (Nat.le_of_ble_eq_true rfl) rfl (Nat.le_of_ble_eq_true rfl) dModel_way_43 rfl (by decide) H (fun v τ p16 => ?_)
        obtain ⟨I18, L19, rfl, rfl, H⟩ := p16
        refine ev_iload_n dModel_way_46 rfl ?_
        rcases q_em (x2 = (0)) with c0 | c0
        · have H := H.1 c0
          refine ev_tableIn 80 dModel_way_47 (by rw [c0]; decide) (by rw [c0]; decide) (off := 33) (by rw [c0]; rfl) (by decide) ?_
          refine ev_aload_n dModel_way_80 rfl ?_
          refine ev_getI hok fk_Model_636 (woModel hw) (fun _ _ _ => rfl) dModel_way_81 ?_
          refine ev_i2l dModel_way_84 ?_
          exact ev_lret rfl dModel_way_85 H
        have H := H.2 c0
        rcases q_em (x2 = (1)) with c1 | c1
        · have H := H.1 c1
          refine ev_tableIn 86 dModel_way_47 (by rw [c1]; decide) (by rw [c1]; decide) (off := 39) (by rw [c1]; rfl) (by decide) ?_
          refine ev_aload_n dModel_way_86 rfl ?_
          refine ev_getI hok fk_Model_639 (woModel hw) (fun _ _ _ => rfl) dModel_way_87 ?_
          refine ev_i2l dModel_way_90 ?_
          exact ev_lret rfl dModel_way_91 H
        have H := H.2 c1
        rcases q_em (x2 = (2)) with c2 | c2
        · have H := H.1 c2
          refine ev_tableIn 92 dModel_way_47 (by rw [c2]; decide) (by rw [c2]; decide) (off := 45) (by rw [c2]; rfl) (by decide) ?_
          refine ev_aload_n dModel_way_92 rfl ?_
          refine ev_getI hok fk_Model_642 (woModel hw) (fun _ _ _ => rfl) dModel_way_93 ?_
          refine ev_i2l dModel_way_96 ?_
          exact ev_lret rfl dModel_way_97 H
        have H := H.2 c2
        rcases q_em (x2 = (3)) with c3 | c3
        · have H := H.1 c3
          refine ev_tableIn 98 dModel_way_47 (by rw [c3]; decide) (by rw [c3]; decide) (off := 51) (by rw [c3]; rfl) (by decide) ?_
          refine ev_aload_n dModel_way_98 rfl ?_
          refine ev_getI hok fk_Model_645 (woModel hw) (fun _ _ _ => rfl) dModel_way_99 ?_
          refine ev_i2l dModel_way_102 ?_
          exact ev_lret rfl dModel_way_103 H
        have H := H.2 c3
        rcases q_em (x2 = (4)) with c4 | c4
        · have H := H.1 c4
          refine ev_tableIn 104 dModel_way_47 (by rw [c4]; decide) (by rw [c4]; decide) (off := 57) (by rw [c4]; rfl) (by decide) ?_
          refine ev_aload_n dModel_way_104 rfl ?_
          refine ev_getL hok fk_Model_633 (woModel hw) (fun _ _ _ => rfl) dModel_way_105 ?_
          exact ev_lret rfl dModel_way_108 H
        have H := H.2 c4
        refine ev_tableOut 109 dModel_way_47 (by have e0 : (0 : Int) ≠ (x2 : Int32).toInt := fun h => c0 (Int32.toInt_inj.mp (h.symm.trans (by decide))); have e1 : (1 : Int) ≠ (x2 : Int32).toInt := fun h => c1 (Int32.toInt_inj.mp (h.symm.trans (by decide))); have e2 : (2 : Int) ≠ (x2 : Int32).toInt := fun h => c2 (Int32.toInt_inj.mp (h.symm.trans (by decide))); have e3 : (3 : Int) ≠ (x2 : Int32).toInt := fun h => c3 (Int32.toInt_inj.mp (h.symm.trans (by decide))); have e4 : (4 : Int) ≠ (x2 : Int32).toInt := fun h => c4 (Int32.toInt_inj.mp (h.symm.trans (by decide))); omega) (by decide) ?_
        refine ev_ldc2 (-1) dModel_way_109 (q_t8 153 (by decide +kernel) rfl) ?_
        exact ev_lret rfl dModel_way_112 H
      · have H := H.2 c15
        refine ev_ldc2 (-1) dModel_way_37 (q_t8 153 (by decide +kernel) rfl) ?_
        exact ev_lret rfl dModel_way_40 H
    · have H := H.2 c6
      refine ev_ldc2 (-1) dModel_way_21 (q_t8 153 (by decide +kernel) rfl) ?_
      exact ev_lret rfl dModel_way_24 H
def fModel_worth_0 (D : va_G) (cA : FieldType → ClassId) (b : Nat) (E : State → Prop) (o : Nat) (n : Nat) (sh : Nat → qC) (Rf : Nat → Nat → Option Nat) (I : Nat → Nat → Int32) (L : Nat → Nat → Int64) (post : Option Value → qS → Prop) (x1 : Int32) : Prop :=
  (((I o 135) = 0 → post (some (.long ((-1000000000000)))) (n, sh, Rf, I, L)) ∧ (¬ (I o 135) = 0 → Ev (qGG D cA b E) mModel_pans 0 (0, 0) 0 (lv_args 0 [.ref o]) [] (n, sh, Rf, I, L) (fun v τ => ∃ (r3 : Int32) (I4 : Nat → Nat → Int32) (L5 : Nat → Nat → Int64), v = some (.int r3) ∧ τ = (n, sh, Rf, I4, L5) ∧ Ev (qGG D cA b E) mModel_isIn 0 (0, 0) 0 (lv_args 0 [.int x1, .int 0, .int ((r3 - 1))]) [] (n, sh, Rf, I4, L5) (fun v τ => ∃ (r7 : Int32) (I8 : Nat → Nat → Int32) (L9 : Nat → Nat → Int64), v = some (.int r7) ∧ τ = (n, sh, Rf, I8, L9) ∧ ((¬ r7 = 0 → Ev (qGG D cA b E) mModel_goOn 7 (0, 0) 0 (lv_args 0 [.ref o]) [] (n, sh, Rf, I8, L9) (fun v τ => ∃ (I13 : Nat → Nat → Int32) (L14 : Nat → Nat → Int64), v = none ∧ τ = (n, sh, Rf, I13, L14) ∧ Ev (qGG D cA b E) mModel_worthOf 2 (0, 0) 0 (lv_args 0 [.ref o, .int x1]) [] (n, sh, Rf, I13, L14) (fun v τ => ∃ (r16 : Int64) (I17 : Nat → Nat → Int32) (L18 : Nat → Nat → Int64), v = some (.long r16) ∧ τ = (n, sh, Rf, I17, L18) ∧ post (some (.long r16)) (n, sh, Rf, I17, L18)))) ∧ (r7 = 0 → post (some (.long ((-1000000000000)))) (n, sh, Rf, I8, L9)))))))
set_option maxHeartbeats 4000000 in
set_option maxRecDepth 20000 in
theorem sModel_worth_0 {D : va_G} {cA : FieldType → ClassId} {b : Nat} {E : State → Prop} (o : Nat) (n : Nat) (sh : Nat → qC) (Rf : Nat → Nat → Option Nat) (I : Nat → Nat → Int32) (L : Nat → Nat → Int64) (post : Option Value → qS → Prop) (x1 : Int32) (hok : q_ok (qGG D cA b E)) (hw : WfModel (qGG D cA b E) n sh Rf o) (H : fModel_worth_0 D cA b E o n sh Rf I L post x1) : Ev (qGG D cA b E) mModel_worth 8 (0, 0) 0 [(0, .ref o), (1, .int x1)] [] (n, sh, Rf, I, L) post := by
  unfold fModel_worth_0 at H
  refine ev_aload_n dModel_worth_0 rfl ?_
  refine ev_getI hok fk_Model_172 (woModel hw) (fun _ _ _ => rfl) dModel_worth_1 ?_
  refine ev_if_eq 21 dModel_worth_4 (by decide) (fun c1 => ?_) (fun c1 => ?_)
  · have H := H.1 c1
    refine ev_ldc2 (-1000000000000) dModel_worth_21 (q_t8 48 (by decide +kernel) rfl) ?_
    exact ev_lret rfl dModel_worth_24 H
  · have H := H.2 c1
    refine ev_iload_n dModel_worth_7 rfl ?_
    refine ev_iconst (0) dModel_worth_8 (by decide) ?_
    refine ev_aload_n dModel_worth_9 rfl ?_
    refine ev_callV [] [.int 0, .int x1] (B' := (0, 0)) (B'' := (0, 0)) hok mmModel_pans mk_Model_433 (ci := 12) rfl rfl (woModel hw) rfl (Nat.le_of_ble_eq_true rfl) rfl (Nat.le_of_ble_eq_true rfl) dModel_worth_10 rfl (by decide) H (fun v τ p2 => ?_)
    obtain ⟨r3, I4, L5, rfl, rfl, H⟩ := p2
    refine ev_iconst (1) dModel_worth_13 (by decide) ?_
    refine ev_isub dModel_worth_14 ?_
    refine ev_callS [.int x1, .int 0, .int ((r3 - 1))] [] (B' := (0, 0)) (B'' := (0, 0)) hok mmModel_isIn mk_Model_393 rfl (Nat.le_of_ble_eq_true rfl) rfl (Nat.le_of_ble_eq_true rfl) dModel_worth_15 rfl (by decide) H (fun v τ p6 => ?_)
    obtain ⟨r7, I8, L9, rfl, rfl, H⟩ := p6
    refine ev_if_ne 25 dModel_worth_18 (by decide) (fun c10 => ?_) (fun c10 => ?_)
    · have H := H.1 c10
      refine ev_aload_n dModel_worth_25 rfl ?_
      refine ev_callV [] [] (B' := (0, 0)) (B'' := (0, 0)) hok mmModel_goOn mk_Model_783 (ci := 12) rfl rfl (woModel hw) rfl (Nat.le_of_ble_eq_true rfl) rfl (Nat.le_of_ble_eq_true rfl) dModel_worth_26 rfl (by decide) H (fun v τ p11 => ?_)
      obtain ⟨I13, L14, rfl, rfl, H⟩ := p11
      refine ev_aload_n dModel_worth_29 rfl ?_
      refine ev_iload_n dModel_worth_30 rfl ?_
      refine ev_callV [.int x1] [] (B' := (0, 0)) (B'' := (0, 0)) hok mmModel_worthOf mk_Model_509 (ci := 12) rfl rfl (woModel hw) rfl (Nat.le_of_ble_eq_true rfl) rfl (Nat.le_of_ble_eq_true rfl) dModel_worth_31 rfl (by decide) H (fun v τ p15 => ?_)
      obtain ⟨r16, I17, L18, rfl, rfl, H⟩ := p15
      exact ev_lret rfl dModel_worth_34 H
    · have H := H.2 c10
      refine ev_ldc2 (-1000000000000) dModel_worth_21 (q_t8 48 (by decide +kernel) rfl) ?_
      exact ev_lret rfl dModel_worth_24 H
def fModel_live_122 (D : va_G) (cA : FieldType → ClassId) (b : Nat) (E : State → Prop) (o : Nat) (n : Nat) (sh : Nat → qC) (Rf : Nat → Nat → Option Nat) (I : Nat → Nat → Int32) (L : Nat → Nat → Int64) (post : Option Value → qS → Prop) (x1 : Int32) (x2 : Int32) (x3 : Int32) (x4 : Int32) : Prop :=
  Ev (qGG D cA b E) mModel_live 9 (0, 0) 82 [(0, .ref o), (1, .int x1), (2, .int x2), (3, .int x3), (4, .int ((x4 + Int32.ofInt 1)))] [] (n, sh, Rf, I, L) post
set_option maxHeartbeats 4000000 in
set_option maxRecDepth 20000 in
theorem sModel_live_122 {D : va_G} {cA : FieldType → ClassId} {b : Nat} {E : State → Prop} (o : Nat) (n : Nat) (sh : Nat → qC) (Rf : Nat → Nat → Option Nat) (I : Nat → Nat → Int32) (L : Nat → Nat → Int64) (post : Option Value → qS → Prop) (x1 : Int32) (x2 : Int32) (x3 : Int32) (x4 : Int32) (hok : q_ok (qGG D cA b E)) (hw : WfModel (qGG D cA b E) n sh Rf o) (H : fModel_live_122 D cA b E o n sh Rf I L post x1 x2 x3 x4) : Ev (qGG D cA b E) mModel_live 9 (0, 0) 122 [(0, .ref o), (1, .int x1), (2, .int x2), (3, .int x3), (4, .int x4)] [] (n, sh, Rf, I, L) post := by
  unfold fModel_live_122 at H
  refine ev_iinc dModel_live_122 rfl (by decide) ?_
  refine ev_goto 82 dModel_live_125 (by decide) ?_
  exact ev_sub [(0, .ref o), (1, .int x1), (2, .int x2), (3, .int x3), (4, .int ((x4 + Int32.ofInt 1)))] rfl H
def fModel_live_82 (D : va_G) (cA : FieldType → ClassId) (b : Nat) (E : State → Prop) (o : Nat) (n : Nat) (sh : Nat → qC) (Rf : Nat → Nat → Option Nat) (I : Nat → Nat → Int32) (L : Nat → Nat → Int64) (post : Option Value → qS → Prop) (x1 : Int32) (x2 : Int32) (x3 : Int32) (x4 : Int32) : Prop :=
  (((I o 66) ≤ x4 → Ev (qGG D cA b E) mModel_smuggle 2 (0, 0) 0 (lv_args 0 [.ref o]) [] (n, sh, Rf, I, L) (fun v τ => ∃ (I4 : Nat → Nat → Int32) (L5 : Nat → Nat → Int64), v = none ∧ τ = (n, sh, Rf, I4, L5) ∧ Ev (qGG D cA b E) mModel_note 2 (0, 0) 0 (lv_args 0 [.ref o]) [] (n, sh, Rf, I4, L5) (fun v τ => ∃ (I8 : Nat → Nat → Int32) (L9 : Nat → Nat → Int64), v = none ∧ τ = (n, sh, Rf, I8, L9) ∧ ∀ I10 : Nat → Nat → Int32, q_u I8 o 57 ((I8 o 57) + 1) = I10 → Ev (qGG D cA b E) mModel_live 9 (0, 0) 19 [(0, .ref o), (1, .int x1), (2, .int x2), (3, .int x3), (4, .int x4)] [] (n, sh, Rf, I10, L9) post))) ∧ (¬ (I o 66) ≤ x4 → vp_in x4 6 ∧ ∀ I11 : Nat → Nat → Int32, q_u I (o + 70) (x4 : Int32).toNatClampNeg (-1) = I11 → vp_in x4 6 ∧ ∀ L13 : Nat → Nat → Int64, q_u L (o + 69) (x4 : Int32).toNatClampNeg 0 = L13 → Ev (qGG D cA b E) mModel_isDead 0 (0, 0) 0 (lv_args 0 [.ref o, .int x4]) [] (n, sh, Rf, I11, L13) (fun v τ => ∃ (r16 : Int32) (I17 : Nat → Nat → Int32) (L18 : Nat → Nat → Int64), v = some (.int r16) ∧ τ = (n, sh, Rf, I17, L18) ∧ ((¬ r16 = 0 → fModel_live_122 D cA b E o n sh Rf I17 L18 post x1 x2 x3 x4) ∧ (r16 = 0 → Ev (qGG D cA b E) mModel_act 8 (0, 0) 0 (lv_args 0 [.ref o, .int x4]) [] (n, sh, Rf, I17, L18) (fun v τ => ∃ (I22 : Nat → Nat → Int32) (L23 : Nat → Nat → Int64), v = none ∧ τ = (n, sh, Rf, I22, L23) ∧ fModel_live_122 D cA b E o n sh Rf I22 L23 post x1 x2 x3 x4))))))
set_option maxHeartbeats 4000000 in
set_option maxRecDepth 20000 in
theorem sModel_live_82 {D : va_G} {cA : FieldType → ClassId} {b : Nat} {E : State → Prop} (o : Nat) (n : Nat) (sh : Nat → qC) (Rf : Nat → Nat → Option Nat) (I : Nat → Nat → Int32) (L : Nat → Nat → Int64) (post : Option Value → qS → Prop) (x1 : Int32) (x2 : Int32) (x3 : Int32) (x4 : Int32) (hok : q_ok (qGG D cA b E)) (hw : WfModel (qGG D cA b E) n sh Rf o) (H : fModel_live_82 D cA b E o n sh Rf I L post x1 x2 x3 x4) : Ev (qGG D cA b E) mModel_live 9 (0, 0) 82 [(0, .ref o), (1, .int x1), (2, .int x2), (3, .int x3), (4, .int x4)] [] (n, sh, Rf, I, L) post := by
  unfold fModel_live_82 at H
  refine ev_iload dModel_live_82 rfl ?_
  refine ev_aload_n dModel_live_84 rfl ?_
  refine ev_getI hok fk_Model_387 (woModel hw) (fun _ _ _ => rfl) dModel_live_85 ?_
  refine ev_icmp_ge 128 dModel_live_88 (by decide) (fun c1 => ?_) (fun c1 => ?_)
  · have H := H.1 c1
    refine ev_aload_n dModel_live_128 rfl ?_
    refine ev_callV [] [] (B' := (0, 0)) (B'' := (0, 0)) hok mmModel_smuggle mk_Model_739 (ci := 12) rfl rfl (woModel hw) rfl (Nat.le_of_ble_eq_true rfl) rfl (Nat.le_of_ble_eq_true rfl) dModel_live_129 rfl (by decide) H (fun v τ p2 => ?_)
    obtain ⟨I4, L5, rfl, rfl, H⟩ := p2
    refine ev_aload_n dModel_live_132 rfl ?_
    refine ev_callV [] [] (B' := (0, 0)) (B'' := (0, 0)) hok mmModel_note mk_Model_742 (ci := 12) rfl rfl (woModel hw) rfl (Nat.le_of_ble_eq_true rfl) rfl (Nat.le_of_ble_eq_true rfl) dModel_live_133 rfl (by decide) H (fun v τ p6 => ?_)
    obtain ⟨I8, L9, rfl, rfl, H⟩ := p6
    refine ev_aload_n dModel_live_136 rfl ?_
    refine ev_dup dModel_live_137 rfl ?_
    refine ev_getI hok fk_Model_348 (woModel hw) (fun _ _ _ => rfl) dModel_live_138 ?_
    refine ev_iconst (1) dModel_live_141 (by decide) ?_
    refine ev_iadd dModel_live_142 ?_
    refine ev_putI hok fk_Model_348 (woModel hw) (fun _ _ _ => rfl) rfl rfl dModel_live_143 ?_
    generalize eI10 : q_u I8 o 57 ((I8 o 57) + 1) = I10
    have H := H I10 eI10
    refine ev_goto 19 dModel_live_146 (by decide) ?_
    exact ev_sub [(0, .ref o), (1, .int x1), (2, .int x2), (3, .int x3), (4, .int x4)] rfl H
  · have H := H.2 c1
    refine ev_aload_n dModel_live_91 rfl ?_
    refine ev_getR hok fk_Model_688 (woModel hw) (fun _ _ _ => rfl) (wrModel_103 hw) dModel_live_92 ?_
    refine ev_iload dModel_live_95 rfl ?_
    refine ev_iconst (-1) dModel_live_97 (by decide) ?_
    obtain ⟨h12, H⟩ := H
    refine ev_iast hok (waModel_103 hw) h12 dModel_live_98 ?_
    generalize eI11 : q_u I (o + 70) (x4 : Int32).toNatClampNeg (-1) = I11
    have H := H I11 eI11
    refine ev_aload_n dModel_live_99 rfl ?_
    refine ev_getR hok fk_Model_691 (woModel hw) (fun _ _ _ => rfl) (wrModel_102 hw) dModel_live_100 ?_
    refine ev_iload dModel_live_103 rfl ?_
    refine ev_lconst 0 dModel_live_105 (by decide) ?_
    obtain ⟨h14, H⟩ := H
    refine ev_last hok (waModel_102 hw) h14 dModel_live_106 ?_
    generalize eL13 : q_u L (o + 69) (x4 : Int32).toNatClampNeg 0 = L13
    have H := H L13 eL13
    refine ev_aload_n dModel_live_107 rfl ?_
    refine ev_iload dModel_live_108 rfl ?_
    refine ev_callV [.int x4] [] (B' := (0, 0)) (B'' := (0, 0)) hok mmModel_isDead mk_Model_733 (ci := 12) rfl rfl (woModel hw) rfl (Nat.le_of_ble_eq_true rfl) rfl (Nat.le_of_ble_eq_true rfl) dModel_live_110 rfl (by decide) H (fun v τ p15 => ?_)
    obtain ⟨r16, I17, L18, rfl, rfl, H⟩ := p15
    refine ev_if_ne 122 dModel_live_113 (by decide) (fun c19 => ?_) (fun c19 => ?_)
    · have H := H.1 c19
      exact ev_sub [(0, .ref o), (1, .int x1), (2, .int x2), (3, .int x3), (4, .int x4)] rfl (sModel_live_122 o n sh Rf I17 L18 post x1 x2 x3 x4 hok hw H)
    · have H := H.2 c19
      refine ev_aload_n dModel_live_116 rfl ?_
      refine ev_iload dModel_live_117 rfl ?_
      refine ev_callV [.int x4] [] (B' := (0, 0)) (B'' := (0, 0)) hok mmModel_act mk_Model_736 (ci := 12) rfl rfl (woModel hw) rfl (Nat.le_of_ble_eq_true rfl) rfl (Nat.le_of_ble_eq_true rfl) dModel_live_119 rfl (by decide) H (fun v τ p20 => ?_)
      obtain ⟨I22, L23, rfl, rfl, H⟩ := p20
      exact ev_sub [(0, .ref o), (1, .int x1), (2, .int x2), (3, .int x3), (4, .int x4)] rfl (sModel_live_122 o n sh Rf I22 L23 post x1 x2 x3 x4 hok hw H)
def fModel_live_50 (D : va_G) (cA : FieldType → ClassId) (b : Nat) (E : State → Prop) (o : Nat) (n : Nat) (sh : Nat → qC) (Rf : Nat → Nat → Option Nat) (I : Nat → Nat → Int32) (L : Nat → Nat → Int64) (post : Option Value → qS → Prop) (x1 : Int32) (x2 : Int32) (x3 : Int32) (x4 : Int32) : Prop :=
  Ev (qGG D cA b E) mModel_pans 0 (0, 0) 0 (lv_args 0 [.ref o]) [] (n, sh, Rf, I, L) (fun v τ => ∃ (r2 : Int32) (I3 : Nat → Nat → Int32) (L4 : Nat → Nat → Int64), v = some (.int r2) ∧ τ = (n, sh, Rf, I3, L4) ∧ ((r2 ≤ x4 → Ev (qGG D cA b E) mModel_eat 1 (0, 0) 0 (lv_args 0 [.ref o]) [] (n, sh, Rf, I3, L4) (fun v τ => ∃ (I8 : Nat → Nat → Int32) (L9 : Nat → Nat → Int64), v = none ∧ τ = (n, sh, Rf, I8, L9) ∧ Ev (qGG D cA b E) mModel_fillTowns 1 (0, 0) 0 (lv_args 0 [.ref o]) [] (n, sh, Rf, I8, L9) (fun v τ => ∃ (I12 : Nat → Nat → Int32) (L13 : Nat → Nat → Int64), v = none ∧ τ = (n, sh, Rf, I12, L13) ∧ Ev (qGG D cA b E) mModel_live 9 (0, 0) 82 [(0, .ref o), (1, .int x1), (2, .int x2), (3, .int x3), (4, .int 0)] [] (n, sh, Rf, I12, L13) post))) ∧ (¬ r2 ≤ x4 → Ev (qGG D cA b E) mModel_draw 3 (0, 0) 0 (lv_args 0 [.ref o, .int x4]) [] (n, sh, Rf, I3, L4) (fun v τ => ∃ (I16 : Nat → Nat → Int32) (L17 : Nat → Nat → Int64), v = none ∧ τ = (n, sh, Rf, I16, L17) ∧ Ev (qGG D cA b E) mModel_live 9 (0, 0) 50 [(0, .ref o), (1, .int x1), (2, .int x2), (3, .int x3), (4, .int ((x4 + Int32.ofInt 1)))] [] (n, sh, Rf, I16, L17) post))))
set_option maxHeartbeats 4000000 in
set_option maxRecDepth 20000 in
theorem sModel_live_50 {D : va_G} {cA : FieldType → ClassId} {b : Nat} {E : State → Prop} (o : Nat) (n : Nat) (sh : Nat → qC) (Rf : Nat → Nat → Option Nat) (I : Nat → Nat → Int32) (L : Nat → Nat → Int64) (post : Option Value → qS → Prop) (x1 : Int32) (x2 : Int32) (x3 : Int32) (x4 : Int32) (hok : q_ok (qGG D cA b E)) (hw : WfModel (qGG D cA b E) n sh Rf o) (H : fModel_live_50 D cA b E o n sh Rf I L post x1 x2 x3 x4) : Ev (qGG D cA b E) mModel_live 9 (0, 0) 50 [(0, .ref o), (1, .int x1), (2, .int x2), (3, .int x3), (4, .int x4)] [] (n, sh, Rf, I, L) post := by
  unfold fModel_live_50 at H
  refine ev_iload dModel_live_50 rfl ?_
  refine ev_aload_n dModel_live_52 rfl ?_
  refine ev_callV [] [.int x4] (B' := (0, 0)) (B'' := (0, 0)) hok mmModel_pans mk_Model_433 (ci := 12) rfl rfl (woModel hw) rfl (Nat.le_of_ble_eq_true rfl) rfl (Nat.le_of_ble_eq_true rfl) dModel_live_53 rfl (by decide) H (fun v τ p1 => ?_)
  obtain ⟨r2, I3, L4, rfl, rfl, H⟩ := p1
  refine ev_icmp_ge 71 dModel_live_56 (by decide) (fun c5 => ?_) (fun c5 => ?_)
  · have H := H.1 c5
    refine ev_aload_n dModel_live_71 rfl ?_
    refine ev_callV [] [] (B' := (0, 0)) (B'' := (0, 0)) hok mmModel_eat mk_Model_727 (ci := 12) rfl rfl (woModel hw) rfl (Nat.le_of_ble_eq_true rfl) rfl (Nat.le_of_ble_eq_true rfl) dModel_live_72 rfl (by decide) H (fun v τ p6 => ?_)
    obtain ⟨I8, L9, rfl, rfl, H⟩ := p6
    refine ev_aload_n dModel_live_75 rfl ?_
    refine ev_callV [] [] (B' := (0, 0)) (B'' := (0, 0)) hok mmModel_fillTowns mk_Model_730 (ci := 12) rfl rfl (woModel hw) rfl (Nat.le_of_ble_eq_true rfl) rfl (Nat.le_of_ble_eq_true rfl) dModel_live_76 rfl (by decide) H (fun v τ p10 => ?_)
    obtain ⟨I12, L13, rfl, rfl, H⟩ := p10
    refine ev_iconst (0) dModel_live_79 (by decide) ?_
    refine ev_istore dModel_live_80 (by decide) ?_
    exact ev_sub [(0, .ref o), (1, .int x1), (2, .int x2), (3, .int x3), (4, .int 0)] rfl H
  · have H := H.2 c5
    refine ev_aload_n dModel_live_59 rfl ?_
    refine ev_iload dModel_live_60 rfl ?_
    refine ev_callV [.int x4] [] (B' := (0, 0)) (B'' := (0, 0)) hok mmModel_draw mk_Model_724 (ci := 12) rfl rfl (woModel hw) rfl (Nat.le_of_ble_eq_true rfl) rfl (Nat.le_of_ble_eq_true rfl) dModel_live_62 rfl (by decide) H (fun v τ p14 => ?_)
    obtain ⟨I16, L17, rfl, rfl, H⟩ := p14
    refine ev_iinc dModel_live_65 rfl (by decide) ?_
    refine ev_goto 50 dModel_live_68 (by decide) ?_
    exact ev_sub [(0, .ref o), (1, .int x1), (2, .int x2), (3, .int x3), (4, .int ((x4 + Int32.ofInt 1)))] rfl H
def fModel_live_19 (D : va_G) (cA : FieldType → ClassId) (b : Nat) (E : State → Prop) (o : Nat) (n : Nat) (sh : Nat → qC) (Rf : Nat → Nat → Option Nat) (I : Nat → Nat → Int32) (L : Nat → Nat → Int64) (post : Option Value → qS → Prop) (x1 : Int32) (x2 : Int32) (x3 : Int32) : Prop :=
  ((x2 ≤ (I o 57) → post none (n, sh, Rf, I, L)) ∧ (¬ x2 ≤ (I o 57) → Ev (qGG D cA b E) mModel_beginMonth 2 (0, 0) 0 (lv_args 0 [.ref o]) [] (n, sh, Rf, I, L) (fun v τ => ∃ (I4 : Nat → Nat → Int32) (L5 : Nat → Nat → Int64), v = none ∧ τ = (n, sh, Rf, I4, L5) ∧ Ev (qGG D cA b E) mModel_make 1 (0, 0) 0 (lv_args 0 [.ref o]) [] (n, sh, Rf, I4, L5) (fun v τ => ∃ (I8 : Nat → Nat → Int32) (L9 : Nat → Nat → Int64), v = none ∧ τ = (n, sh, Rf, I8, L9) ∧ Ev (qGG D cA b E) mModel_tellMonth 6 (0, 0) 0 (lv_args 0 [.ref o]) [] (n, sh, Rf, I8, L9) (fun v τ => ∃ (I12 : Nat → Nat → Int32) (L13 : Nat → Nat → Int64), v = none ∧ τ = (n, sh, Rf, I12, L13) ∧ Ev (qGG D cA b E) mModel_comes 3 (0, 0) 0 (lv_args 0 [.ref o]) [] (n, sh, Rf, I12, L13) (fun v τ => ∃ (I16 : Nat → Nat → Int32) (L17 : Nat → Nat → Int64), v = none ∧ τ = (n, sh, Rf, I16, L17) ∧ Ev (qGG D cA b E) mModel_classes 5 (0, 0) 0 (lv_args 0 [.ref o]) [] (n, sh, Rf, I16, L17) (fun v τ => ∃ (I20 : Nat → Nat → Int32) (L21 : Nat → Nat → Int64), v = none ∧ τ = (n, sh, Rf, I20, L21) ∧ Ev (qGG D cA b E) mModel_live 9 (0, 0) 50 [(0, .ref o), (1, .int x1), (2, .int x2), (3, .int x3), (4, .int 0)] [] (n, sh, Rf, I20, L21) post)))))))
set_option maxHeartbeats 4000000 in
set_option maxRecDepth 20000 in
theorem sModel_live_19 {D : va_G} {cA : FieldType → ClassId} {b : Nat} {E : State → Prop} (o : Nat) (n : Nat) (sh : Nat → qC) (Rf : Nat → Nat → Option Nat) (I : Nat → Nat → Int32) (L : Nat → Nat → Int64) (post : Option Value → qS → Prop) (x1 : Int32) (x2 : Int32) (x3 : Int32) (hok : q_ok (qGG D cA b E)) (hw : WfModel (qGG D cA b E) n sh Rf o) (H : fModel_live_19 D cA b E o n sh Rf I L post x1 x2 x3) : Ev (qGG D cA b E) mModel_live 9 (0, 0) 19 [(0, .ref o), (1, .int x1), (2, .int x2), (3, .int x3)] [] (n, sh, Rf, I, L) post := by
  unfold fModel_live_19 at H
  refine ev_aload_n dModel_live_19 rfl ?_
  refine ev_getI hok fk_Model_348 (woModel hw) (fun _ _ _ => rfl) dModel_live_20 ?_
  refine ev_iload_n dModel_live_23 rfl ?_
  refine ev_icmp_ge 149 dModel_live_24 (by decide) (fun c1 => ?_) (fun c1 => ?_)
  · have H := H.1 c1
    exact ev_vret rfl dModel_live_149 H
  · have H := H.2 c1
    refine ev_aload_n dModel_live_27 rfl ?_
    refine ev_callV [] [] (B' := (0, 0)) (B'' := (0, 0)) hok mmModel_beginMonth mk_Model_709 (ci := 12) rfl rfl (woModel hw) rfl (Nat.le_of_ble_eq_true rfl) rfl (Nat.le_of_ble_eq_true rfl) dModel_live_28 rfl (by decide) H (fun v τ p2 => ?_)
    obtain ⟨I4, L5, rfl, rfl, H⟩ := p2
    refine ev_aload_n dModel_live_31 rfl ?_
    refine ev_callV [] [] (B' := (0, 0)) (B'' := (0, 0)) hok mmModel_make mk_Model_712 (ci := 12) rfl rfl (woModel hw) rfl (Nat.le_of_ble_eq_true rfl) rfl (Nat.le_of_ble_eq_true rfl) dModel_live_32 rfl (by decide) H (fun v τ p6 => ?_)
    obtain ⟨I8, L9, rfl, rfl, H⟩ := p6
    refine ev_aload_n dModel_live_35 rfl ?_
    refine ev_callV [] [] (B' := (0, 0)) (B'' := (0, 0)) hok mmModel_tellMonth mk_Model_715 (ci := 12) rfl rfl (woModel hw) rfl (Nat.le_of_ble_eq_true rfl) rfl (Nat.le_of_ble_eq_true rfl) dModel_live_36 rfl (by decide) H (fun v τ p10 => ?_)
    obtain ⟨I12, L13, rfl, rfl, H⟩ := p10
    refine ev_aload_n dModel_live_39 rfl ?_
    refine ev_callV [] [] (B' := (0, 0)) (B'' := (0, 0)) hok mmModel_comes mk_Model_718 (ci := 12) rfl rfl (woModel hw) rfl (Nat.le_of_ble_eq_true rfl) rfl (Nat.le_of_ble_eq_true rfl) dModel_live_40 rfl (by decide) H (fun v τ p14 => ?_)
    obtain ⟨I16, L17, rfl, rfl, H⟩ := p14
    refine ev_aload_n dModel_live_43 rfl ?_
    refine ev_callV [] [] (B' := (0, 0)) (B'' := (0, 0)) hok mmModel_classes mk_Model_721 (ci := 12) rfl rfl (woModel hw) rfl (Nat.le_of_ble_eq_true rfl) rfl (Nat.le_of_ble_eq_true rfl) dModel_live_44 rfl (by decide) H (fun v τ p18 => ?_)
    obtain ⟨I20, L21, rfl, rfl, H⟩ := p18
    refine ev_iconst (0) dModel_live_47 (by decide) ?_
    refine ev_istore dModel_live_48 (by decide) ?_
    exact ev_sub [(0, .ref o), (1, .int x1), (2, .int x2), (3, .int x3), (4, .int 0)] rfl H
def fModel_live_19_4 (D : va_G) (cA : FieldType → ClassId) (b : Nat) (E : State → Prop) (o : Nat) (n : Nat) (sh : Nat → qC) (Rf : Nat → Nat → Option Nat) (I : Nat → Nat → Int32) (L : Nat → Nat → Int64) (post : Option Value → qS → Prop) (x1 : Int32) (x2 : Int32) (x3 : Int32) (x4 : Int32) : Prop :=
  ((x2 ≤ (I o 57) → post none (n, sh, Rf, I, L)) ∧ (¬ x2 ≤ (I o 57) → Ev (qGG D cA b E) mModel_beginMonth 2 (0, 0) 0 (lv_args 0 [.ref o]) [] (n, sh, Rf, I, L) (fun v τ => ∃ (I4 : Nat → Nat → Int32) (L5 : Nat → Nat → Int64), v = none ∧ τ = (n, sh, Rf, I4, L5) ∧ Ev (qGG D cA b E) mModel_make 1 (0, 0) 0 (lv_args 0 [.ref o]) [] (n, sh, Rf, I4, L5) (fun v τ => ∃ (I8 : Nat → Nat → Int32) (L9 : Nat → Nat → Int64), v = none ∧ τ = (n, sh, Rf, I8, L9) ∧ Ev (qGG D cA b E) mModel_tellMonth 6 (0, 0) 0 (lv_args 0 [.ref o]) [] (n, sh, Rf, I8, L9) (fun v τ => ∃ (I12 : Nat → Nat → Int32) (L13 : Nat → Nat → Int64), v = none ∧ τ = (n, sh, Rf, I12, L13) ∧ Ev (qGG D cA b E) mModel_comes 3 (0, 0) 0 (lv_args 0 [.ref o]) [] (n, sh, Rf, I12, L13) (fun v τ => ∃ (I16 : Nat → Nat → Int32) (L17 : Nat → Nat → Int64), v = none ∧ τ = (n, sh, Rf, I16, L17) ∧ Ev (qGG D cA b E) mModel_classes 5 (0, 0) 0 (lv_args 0 [.ref o]) [] (n, sh, Rf, I16, L17) (fun v τ => ∃ (I20 : Nat → Nat → Int32) (L21 : Nat → Nat → Int64), v = none ∧ τ = (n, sh, Rf, I20, L21) ∧ Ev (qGG D cA b E) mModel_live 9 (0, 0) 50 [(0, .ref o), (1, .int x1), (2, .int x2), (3, .int x3), (4, .int 0)] [] (n, sh, Rf, I20, L21) post)))))))
set_option maxHeartbeats 4000000 in
set_option maxRecDepth 20000 in
theorem sModel_live_19_4 {D : va_G} {cA : FieldType → ClassId} {b : Nat} {E : State → Prop} (o : Nat) (n : Nat) (sh : Nat → qC) (Rf : Nat → Nat → Option Nat) (I : Nat → Nat → Int32) (L : Nat → Nat → Int64) (post : Option Value → qS → Prop) (x1 : Int32) (x2 : Int32) (x3 : Int32) (x4 : Int32) (hok : q_ok (qGG D cA b E)) (hw : WfModel (qGG D cA b E) n sh Rf o) (H : fModel_live_19_4 D cA b E o n sh Rf I L post x1 x2 x3 x4) : Ev (qGG D cA b E) mModel_live 9 (0, 0) 19 [(0, .ref o), (1, .int x1), (2, .int x2), (3, .int x3), (4, .int x4)] [] (n, sh, Rf, I, L) post := by
  unfold fModel_live_19_4 at H
  refine ev_aload_n dModel_live_19 rfl ?_
  refine ev_getI hok fk_Model_348 (woModel hw) (fun _ _ _ => rfl) dModel_live_20 ?_
  refine ev_iload_n dModel_live_23 rfl ?_
  refine ev_icmp_ge 149 dModel_live_24 (by decide) (fun c1 => ?_) (fun c1 => ?_)
  · have H := H.1 c1
    exact ev_vret rfl dModel_live_149 H
  · have H := H.2 c1
    refine ev_aload_n dModel_live_27 rfl ?_
    refine ev_callV [] [] (B' := (0, 0)) (B'' := (0, 0)) hok mmModel_beginMonth mk_Model_709 (ci := 12) rfl rfl (woModel hw) rfl (Nat.le_of_ble_eq_true rfl) rfl (Nat.le_of_ble_eq_true rfl) dModel_live_28 rfl (by decide) H (fun v τ p2 => ?_)
    obtain ⟨I4, L5, rfl, rfl, H⟩ := p2
    refine ev_aload_n dModel_live_31 rfl ?_
    refine ev_callV [] [] (B' := (0, 0)) (B'' := (0, 0)) hok mmModel_make mk_Model_712 (ci := 12) rfl rfl (woModel hw) rfl (Nat.le_of_ble_eq_true rfl) rfl (Nat.le_of_ble_eq_true rfl) dModel_live_32 rfl (by decide) H (fun v τ p6 => ?_)
    obtain ⟨I8, L9, rfl, rfl, H⟩ := p6
    refine ev_aload_n dModel_live_35 rfl ?_
    refine ev_callV [] [] (B' := (0, 0)) (B'' := (0, 0)) hok mmModel_tellMonth mk_Model_715 (ci := 12) rfl rfl (woModel hw) rfl (Nat.le_of_ble_eq_true rfl) rfl (Nat.le_of_ble_eq_true rfl) dModel_live_36 rfl (by decide) H (fun v τ p10 => ?_)
    obtain ⟨I12, L13, rfl, rfl, H⟩ := p10
    refine ev_aload_n dModel_live_39 rfl ?_
    refine ev_callV [] [] (B' := (0, 0)) (B'' := (0, 0)) hok mmModel_comes mk_Model_718 (ci := 12) rfl rfl (woModel hw) rfl (Nat.le_of_ble_eq_true rfl) rfl (Nat.le_of_ble_eq_true rfl) dModel_live_40 rfl (by decide) H (fun v τ p14 => ?_)
    obtain ⟨I16, L17, rfl, rfl, H⟩ := p14
    refine ev_aload_n dModel_live_43 rfl ?_
    refine ev_callV [] [] (B' := (0, 0)) (B'' := (0, 0)) hok mmModel_classes mk_Model_721 (ci := 12) rfl rfl (woModel hw) rfl (Nat.le_of_ble_eq_true rfl) rfl (Nat.le_of_ble_eq_true rfl) dModel_live_44 rfl (by decide) H (fun v τ p18 => ?_)
    obtain ⟨I20, L21, rfl, rfl, H⟩ := p18
    refine ev_iconst (0) dModel_live_47 (by decide) ?_
    refine ev_istore dModel_live_48 (by decide) ?_
    exact ev_sub [(0, .ref o), (1, .int x1), (2, .int x2), (3, .int x3), (4, .int 0)] rfl H
def fModel_live_0 (D : va_G) (cA : FieldType → ClassId) (b : Nat) (E : State → Prop) (o : Nat) (n : Nat) (sh : Nat → qC) (Rf : Nat → Nat → Option Nat) (I : Nat → Nat → Int32) (L : Nat → Nat → Int64) (post : Option Value → qS → Prop) (x1 : Int32) (x2 : Int32) (x3 : Int32) : Prop :=
  ∀ I1 : Nat → Nat → Int32, q_u I o 106 x1 = I1 → ∀ I2 : Nat → Nat → Int32, q_u I1 o 74 x3 = I2 → Ev (qGG D cA b E) mModel_clear 1 (0, 0) 0 (lv_args 0 [.ref o]) [] (n, sh, Rf, I2, L) (fun v τ => ∃ (I5 : Nat → Nat → Int32) (L6 : Nat → Nat → Int64), v = none ∧ τ = (n, sh, Rf, I5, L6) ∧ ∀ I7 : Nat → Nat → Int32, q_u I5 o 57 0 = I7 → Ev (qGG D cA b E) mModel_live 9 (0, 0) 19 [(0, .ref o), (1, .int x1), (2, .int x2), (3, .int x3)] [] (n, sh, Rf, I7, L6) post)
set_option maxHeartbeats 4000000 in
set_option maxRecDepth 20000 in
theorem sModel_live_0 {D : va_G} {cA : FieldType → ClassId} {b : Nat} {E : State → Prop} (o : Nat) (n : Nat) (sh : Nat → qC) (Rf : Nat → Nat → Option Nat) (I : Nat → Nat → Int32) (L : Nat → Nat → Int64) (post : Option Value → qS → Prop) (x1 : Int32) (x2 : Int32) (x3 : Int32) (hok : q_ok (qGG D cA b E)) (hw : WfModel (qGG D cA b E) n sh Rf o) (H : fModel_live_0 D cA b E o n sh Rf I L post x1 x2 x3) : Ev (qGG D cA b E) mModel_live 9 (0, 0) 0 [(0, .ref o), (1, .int x1), (2, .int x2), (3, .int x3)] [] (n, sh, Rf, I, L) post := by
  unfold fModel_live_0 at H
  refine ev_aload_n dModel_live_0 rfl ?_
  refine ev_iload_n dModel_live_1 rfl ?_
  refine ev_putI hok fk_Model_516 (woModel hw) (fun _ _ _ => rfl) rfl rfl dModel_live_2 ?_
  generalize eI1 : q_u I o 106 x1 = I1
  have H := H I1 eI1
  refine ev_aload_n dModel_live_5 rfl ?_
  refine ev_iload_n dModel_live_6 rfl ?_
  refine ev_putI hok fk_Model_444 (woModel hw) (fun _ _ _ => rfl) rfl rfl dModel_live_7 ?_
  generalize eI2 : q_u I1 o 74 x3 = I2
  have H := H I2 eI2
  refine ev_aload_n dModel_live_10 rfl ?_
  refine ev_callV [] [] (B' := (0, 0)) (B'' := (0, 0)) hok mmModel_clear mk_Model_706 (ci := 12) rfl rfl (woModel hw) rfl (Nat.le_of_ble_eq_true rfl) rfl (Nat.le_of_ble_eq_true rfl) dModel_live_11 rfl (by decide) H (fun v τ p3 => ?_)
  obtain ⟨I5, L6, rfl, rfl, H⟩ := p3
  refine ev_aload_n dModel_live_14 rfl ?_
  refine ev_iconst (0) dModel_live_15 (by decide) ?_
  refine ev_putI hok fk_Model_348 (woModel hw) (fun _ _ _ => rfl) rfl rfl dModel_live_16 ?_
  generalize eI7 : q_u I5 o 57 0 = I7
  have H := H I7 eI7
  exact ev_sub [(0, .ref o), (1, .int x1), (2, .int x2), (3, .int x3)] rfl H
def fModel_run_0 (D : va_G) (cA : FieldType → ClassId) (b : Nat) (E : State → Prop) (o : Nat) (n : Nat) (sh : Nat → qC) (Rf : Nat → Nat → Option Nat) (I : Nat → Nat → Int32) (L : Nat → Nat → Int64) (post : Option Value → qS → Prop) (x1 : Int32) (x2 : Int32) (x3 : Int32) : Prop :=
  Ev (qGG D cA b E) mModel_isIn 0 (0, 0) 0 (lv_args 0 [.int x1, .int 0, .int 3]) [] (n, sh, Rf, I, L) (fun v τ => ∃ (r2 : Int32) (I3 : Nat → Nat → Int32) (L4 : Nat → Nat → Int64), v = some (.int r2) ∧ τ = (n, sh, Rf, I3, L4) ∧ ((r2 = 0 → post (some (.int ((-1)))) (n, sh, Rf, I3, L4)) ∧ (¬ r2 = 0 → Ev (qGG D cA b E) mModel_isIn 0 (0, 0) 0 (lv_args 0 [.int x2, .int 0, .int 240]) [] (n, sh, Rf, I3, L4) (fun v τ => ∃ (r7 : Int32) (I8 : Nat → Nat → Int32) (L9 : Nat → Nat → Int64), v = some (.int r7) ∧ τ = (n, sh, Rf, I8, L9) ∧ ((¬ r7 = 0 → Ev (qGG D cA b E) mModel_live 9 (0, 0) 0 (lv_args 0 [.ref o, .int x1, .int x2, .int x3]) [] (n, sh, Rf, I8, L9) (fun v τ => ∃ (I13 : Nat → Nat → Int32) (L14 : Nat → Nat → Int64), v = none ∧ τ = (n, sh, Rf, I13, L14) ∧ ∀ I15 : Nat → Nat → Int32, q_u I13 o 135 1 = I15 → ∀ I16 : Nat → Nat → Int32, q_u I15 o 136 x2 = I16 → ∀ I17 : Nat → Nat → Int32, q_u I16 o 137 (I16 o 66) = I17 → Ev (qGG D cA b E) mModel_lay 0 (0, 0) 0 (lv_args 0 [.ref o, .int x1, .int 5]) [] (n, sh, Rf, I17, L14) (fun v τ => ∃ (I20 : Nat → Nat → Int32) (L21 : Nat → Nat → Int64), v = none ∧ τ = (n, sh, Rf, I20, L21) ∧ Ev (qGG D cA b E) mModel_keep 1 (0, 0) 0 (lv_args 0 [.ref o]) [] (n, sh, Rf, I20, L21) (fun v τ => ∃ (I24 : Nat → Nat → Int32) (L25 : Nat → Nat → Int64), v = none ∧ τ = (n, sh, Rf, I24, L25) ∧ post (some (.int ((I24 o 104)))) (n, sh, Rf, I24, L25))))) ∧ (r7 = 0 → post (some (.int ((-1)))) (n, sh, Rf, I8, L9)))))))
set_option maxHeartbeats 4000000 in
set_option maxRecDepth 20000 in
theorem sModel_run_0 {D : va_G} {cA : FieldType → ClassId} {b : Nat} {E : State → Prop} (o : Nat) (n : Nat) (sh : Nat → qC) (Rf : Nat → Nat → Option Nat) (I : Nat → Nat → Int32) (L : Nat → Nat → Int64) (post : Option Value → qS → Prop) (x1 : Int32) (x2 : Int32) (x3 : Int32) (hok : q_ok (qGG D cA b E)) (hw : WfModel (qGG D cA b E) n sh Rf o) (H : fModel_run_0 D cA b E o n sh Rf I L post x1 x2 x3) : Ev (qGG D cA b E) mModel_run 10 (0, 0) 0 [(0, .ref o), (1, .int x1), (2, .int x2), (3, .int x3)] [] (n, sh, Rf, I, L) post := by
  unfold fModel_run_0 at H
  refine ev_iload_n dModel_run_0 rfl ?_
  refine ev_iconst (0) dModel_run_1 (by decide) ?_
  refine ev_iconst (3) dModel_run_2 (by decide) ?_
  refine ev_callS [.int x1, .int 0, .int 3] [] (B' := (0, 0)) (B'' := (0, 0)) hok mmModel_isIn mk_Model_393 rfl (Nat.le_of_ble_eq_true rfl) rfl (Nat.le_of_ble_eq_true rfl) dModel_run_3 rfl (by decide) H (fun v τ p1 => ?_)
  obtain ⟨r2, I3, L4, rfl, rfl, H⟩ := p1
  refine ev_if_eq 20 dModel_run_6 (by decide) (fun c5 => ?_) (fun c5 => ?_)
  · have H := H.1 c5
    refine ev_iconst (-1) dModel_run_20 (by decide) ?_
    exact ev_iret rfl dModel_run_21 H
  · have H := H.2 c5
    refine ev_iload_n dModel_run_9 rfl ?_
    refine ev_iconst (0) dModel_run_10 (by decide) ?_
    refine ev_sipush (240) dModel_run_11 (by decide) ?_
    refine ev_callS [.int x2, .int 0, .int 240] [] (B' := (0, 0)) (B'' := (0, 0)) hok mmModel_isIn mk_Model_393 rfl (Nat.le_of_ble_eq_true rfl) rfl (Nat.le_of_ble_eq_true rfl) dModel_run_14 rfl (by decide) H (fun v τ p6 => ?_)
    obtain ⟨r7, I8, L9, rfl, rfl, H⟩ := p6
    refine ev_if_ne 22 dModel_run_17 (by decide) (fun c10 => ?_) (fun c10 => ?_)
    · have H := H.1 c10
      refine ev_aload_n dModel_run_22 rfl ?_
      refine ev_iload_n dModel_run_23 rfl ?_
      refine ev_iload_n dModel_run_24 rfl ?_
      refine ev_iload_n dModel_run_25 rfl ?_
      refine ev_callV [.int x1, .int x2, .int x3] [] (B' := (0, 0)) (B'' := (0, 0)) hok mmModel_live mk_Model_763 (ci := 12) rfl rfl (woModel hw) rfl (Nat.le_of_ble_eq_true rfl) rfl (Nat.le_of_ble_eq_true rfl) dModel_run_26 rfl (by decide) H (fun v τ p11 => ?_)
      obtain ⟨I13, L14, rfl, rfl, H⟩ := p11
      refine ev_aload_n dModel_run_29 rfl ?_
      refine ev_iconst (1) dModel_run_30 (by decide) ?_
      refine ev_putI hok fk_Model_172 (woModel hw) (fun _ _ _ => rfl) (q_bz (Or.inr rfl)) (q_bf (Or.inr rfl)) dModel_run_31 ?_
      generalize eI15 : q_u I13 o 135 1 = I15
      have H := H I15 eI15
      refine ev_aload_n dModel_run_34 rfl ?_
      refine ev_iload_n dModel_run_35 rfl ?_
      refine ev_putI hok fk_Model_766 (woModel hw) (fun _ _ _ => rfl) rfl rfl dModel_run_36 ?_
      generalize eI16 : q_u I15 o 136 x2 = I16
      have H := H I16 eI16
      refine ev_aload_n dModel_run_39 rfl ?_
      refine ev_aload_n dModel_run_40 rfl ?_
      refine ev_getI hok fk_Model_387 (woModel hw) (fun _ _ _ => rfl) dModel_run_41 ?_
      refine ev_putI hok fk_Model_769 (woModel hw) (fun _ _ _ => rfl) rfl rfl dModel_run_44 ?_
      generalize eI17 : q_u I16 o 137 (I16 o 66) = I17
      have H := H I17 eI17
      refine ev_aload_n dModel_run_47 rfl ?_
      refine ev_iload_n dModel_run_48 rfl ?_
      refine ev_iconst (5) dModel_run_49 (by decide) ?_
      refine ev_callV [.int x1, .int 5] [] (B' := (0, 0)) (B'' := (0, 0)) hok mmModel_lay mk_Model_297 (ci := 12) rfl rfl (woModel hw) rfl (Nat.le_of_ble_eq_true rfl) rfl (Nat.le_of_ble_eq_true rfl) dModel_run_50 rfl (by decide) H (fun v τ p18 => ?_)
      obtain ⟨I20, L21, rfl, rfl, H⟩ := p18
      refine ev_aload_n dModel_run_53 rfl ?_
      refine ev_callV [] [] (B' := (0, 0)) (B'' := (0, 0)) hok mmModel_keep mk_Model_772 (ci := 12) rfl rfl (woModel hw) rfl (Nat.le_of_ble_eq_true rfl) rfl (Nat.le_of_ble_eq_true rfl) dModel_run_54 rfl (by decide) H (fun v τ p22 => ?_)
      obtain ⟨I24, L25, rfl, rfl, H⟩ := p22
      refine ev_aload_n dModel_run_57 rfl ?_
      refine ev_getI hok fk_Model_454 (woModel hw) (fun _ _ _ => rfl) dModel_run_58 ?_
      exact ev_iret rfl dModel_run_61 H
    · have H := H.2 c10
      refine ev_iconst (-1) dModel_run_20 (by decide) ?_
      exact ev_iret rfl dModel_run_21 H
def fModel_tryOut_0 (D : va_G) (cA : FieldType → ClassId) (b : Nat) (E : State → Prop) (o : Nat) (n : Nat) (sh : Nat → qC) (Rf : Nat → Nat → Option Nat) (I : Nat → Nat → Int32) (L : Nat → Nat → Int64) (post : Option Value → qS → Prop) (x1 : Int32) (x2 : Int32) (x3 : Int32) (x4 : Int32) : Prop :=
  Ev (qGG D cA b E) mModel_live 9 (0, 0) 0 (lv_args 0 [.ref o, .int x2, .int x3, .int x4]) [] (n, sh, Rf, I, L) (fun v τ => ∃ (I3 : Nat → Nat → Int32) (L4 : Nat → Nat → Int64), v = none ∧ τ = (n, sh, Rf, I3, L4) ∧ vp_in x1 2 ∧ ∀ L5 : Nat → Nat → Int64, q_u L4 (o + 77) (x1 : Int32).toNatClampNeg (L4 o 112) = L5 → vp_in x1 2 ∧ ∀ L7 : Nat → Nat → Int64, q_u L5 (o + 78) (x1 : Int32).toNatClampNeg (L5 o 118) = L7 → vp_in x1 2 ∧ ∀ L9 : Nat → Nat → Int64, q_u L7 (o + 79) (x1 : Int32).toNatClampNeg (L7 o 119) = L9 → vp_in x1 2 ∧ ∀ L11 : Nat → Nat → Int64, q_u L9 (o + 80) (x1 : Int32).toNatClampNeg (L9 o 114) = L11 → post none (n, sh, Rf, I3, L11))
set_option maxHeartbeats 4000000 in
set_option maxRecDepth 20000 in
theorem sModel_tryOut_0 {D : va_G} {cA : FieldType → ClassId} {b : Nat} {E : State → Prop} (o : Nat) (n : Nat) (sh : Nat → qC) (Rf : Nat → Nat → Option Nat) (I : Nat → Nat → Int32) (L : Nat → Nat → Int64) (post : Option Value → qS → Prop) (x1 : Int32) (x2 : Int32) (x3 : Int32) (x4 : Int32) (hok : q_ok (qGG D cA b E)) (hw : WfModel (qGG D cA b E) n sh Rf o) (H : fModel_tryOut_0 D cA b E o n sh Rf I L post x1 x2 x3 x4) : Ev (qGG D cA b E) mModel_tryOut 10 (0, 0) 0 [(0, .ref o), (1, .int x1), (2, .int x2), (3, .int x3), (4, .int x4)] [] (n, sh, Rf, I, L) post := by
  unfold fModel_tryOut_0 at H
  refine ev_aload_n dModel_tryOut_0 rfl ?_
  refine ev_iload_n dModel_tryOut_1 rfl ?_
  refine ev_iload_n dModel_tryOut_2 rfl ?_
  refine ev_iload dModel_tryOut_3 rfl ?_
  refine ev_callV [.int x2, .int x3, .int x4] [] (B' := (0, 0)) (B'' := (0, 0)) hok mmModel_live mk_Model_763 (ci := 12) rfl rfl (woModel hw) rfl (Nat.le_of_ble_eq_true rfl) rfl (Nat.le_of_ble_eq_true rfl) dModel_tryOut_5 rfl (by decide) H (fun v τ p1 => ?_)
  obtain ⟨I3, L4, rfl, rfl, H⟩ := p1
  refine ev_aload_n dModel_tryOut_8 rfl ?_
  refine ev_getR hok fk_Model_786 (woModel hw) (fun _ _ _ => rfl) (wrModel_138 hw) dModel_tryOut_9 ?_
  refine ev_iload_n dModel_tryOut_12 rfl ?_
  refine ev_aload_n dModel_tryOut_13 rfl ?_
  refine ev_getL hok fk_Model_630 (woModel hw) (fun _ _ _ => rfl) dModel_tryOut_14 ?_
  obtain ⟨h6, H⟩ := H
  refine ev_last hok (waModel_138 hw) h6 dModel_tryOut_17 ?_
  generalize eL5 : q_u L4 (o + 77) (x1 : Int32).toNatClampNeg (L4 o 112) = L5
  have H := H L5 eL5
  refine ev_aload_n dModel_tryOut_18 rfl ?_
  refine ev_getR hok fk_Model_789 (woModel hw) (fun _ _ _ => rfl) (wrModel_139 hw) dModel_tryOut_19 ?_
  refine ev_iload_n dModel_tryOut_22 rfl ?_
  refine ev_aload_n dModel_tryOut_23 rfl ?_
  refine ev_getL hok fk_Model_614 (woModel hw) (fun _ _ _ => rfl) dModel_tryOut_24 ?_
  obtain ⟨h8, H⟩ := H
  refine ev_last hok (waModel_139 hw) h8 dModel_tryOut_27 ?_
  generalize eL7 : q_u L5 (o + 78) (x1 : Int32).toNatClampNeg (L5 o 118) = L7
  have H := H L7 eL7
  refine ev_aload_n dModel_tryOut_28 rfl ?_
  refine ev_getR hok fk_Model_792 (woModel hw) (fun _ _ _ => rfl) (wrModel_140 hw) dModel_tryOut_29 ?_
  refine ev_iload_n dModel_tryOut_32 rfl ?_
  refine ev_aload_n dModel_tryOut_33 rfl ?_
  refine ev_getL hok fk_Model_611 (woModel hw) (fun _ _ _ => rfl) dModel_tryOut_34 ?_
  obtain ⟨h10, H⟩ := H
  refine ev_last hok (waModel_140 hw) h10 dModel_tryOut_37 ?_
  generalize eL9 : q_u L7 (o + 79) (x1 : Int32).toNatClampNeg (L7 o 119) = L9
  have H := H L9 eL9
  refine ev_aload_n dModel_tryOut_38 rfl ?_
  refine ev_getR hok fk_Model_795 (woModel hw) (fun _ _ _ => rfl) (wrModel_141 hw) dModel_tryOut_39 ?_
  refine ev_iload_n dModel_tryOut_42 rfl ?_
  refine ev_aload_n dModel_tryOut_43 rfl ?_
  refine ev_getL hok fk_Model_581 (woModel hw) (fun _ _ _ => rfl) dModel_tryOut_44 ?_
  obtain ⟨h12, H⟩ := H
  refine ev_last hok (waModel_141 hw) h12 dModel_tryOut_47 ?_
  generalize eL11 : q_u L9 (o + 80) (x1 : Int32).toNatClampNeg (L9 o 114) = L11
  have H := H L11 eL11
  exact ev_vret rfl dModel_tryOut_48 H
def fModel_judge_130 (D : va_G) (cA : FieldType → ClassId) (b : Nat) (E : State → Prop) (o : Nat) (n : Nat) (sh : Nat → qC) (Rf : Nat → Nat → Option Nat) (I : Nat → Nat → Int32) (L : Nat → Nat → Int64) (post : Option Value → qS → Prop) (x1 : Int32) (x2 : Int32) (x3 : Int32) (x4 : Int32) (z0 : Int32) (z1 : Int32) : Prop :=
  ((z1 = z0 → (((lg_cmp ((L (o + 78) 0) * (L (o + 79) 1)) ((L (o + 78) 1) * (L (o + 79) 0))) = 0 → (((lg_cmp (L (o + 80) 0) (L (o + 80) 1)) ≤ 0 → ((0 ≤ (lg_cmp (L (o + 80) 0) (L (o + 80) 1)) → post (some (.int 2)) (n, sh, Rf, I, L)) ∧ (¬ 0 ≤ (lg_cmp (L (o + 80) 0) (L (o + 80) 1)) → post (some (.int 1)) (n, sh, Rf, I, L)))) ∧ (¬ (lg_cmp (L (o + 80) 0) (L (o + 80) 1)) ≤ 0 → post (some (.int 0)) (n, sh, Rf, I, L)))) ∧ (¬ (lg_cmp ((L (o + 78) 0) * (L (o + 79) 1)) ((L (o + 78) 1) * (L (o + 79) 0))) = 0 → ((0 ≤ (lg_cmp ((L (o + 78) 0) * (L (o + 79) 1)) ((L (o + 78) 1) * (L (o + 79) 0))) → post (some (.int 1)) (n, sh, Rf, I, L)) ∧ (¬ 0 ≤ (lg_cmp ((L (o + 78) 0) * (L (o + 79) 1)) ((L (o + 78) 1) * (L (o + 79) 0))) → post (some (.int 0)) (n, sh, Rf, I, L)))))) ∧ (¬ z1 = z0 → (((lg_cmp (L (o + 79) 0) 0) ≤ 0 → post (some (.int 1)) (n, sh, Rf, I, L)) ∧ (¬ (lg_cmp (L (o + 79) 0) 0) ≤ 0 → post (some (.int 0)) (n, sh, Rf, I, L)))))
set_option maxHeartbeats 4000000 in
set_option maxRecDepth 20000 in
theorem sModel_judge_130 {D : va_G} {cA : FieldType → ClassId} {b : Nat} {E : State → Prop} (o : Nat) (n : Nat) (sh : Nat → qC) (Rf : Nat → Nat → Option Nat) (I : Nat → Nat → Int32) (L : Nat → Nat → Int64) (post : Option Value → qS → Prop) (x1 : Int32) (x2 : Int32) (x3 : Int32) (x4 : Int32) (z0 : Int32) (z1 : Int32) (hok : q_ok (qGG D cA b E)) (hw : WfModel (qGG D cA b E) n sh Rf o) (H : fModel_judge_130 D cA b E o n sh Rf I L post x1 x2 x3 x4 z0 z1) : Ev (qGG D cA b E) mModel_judge 11 (0, 0) 130 [(0, .ref o), (1, .int x1), (2, .int x2), (3, .int x3), (4, .int x4)] [.int z0, .int z1] (n, sh, Rf, I, L) post := by
  unfold fModel_judge_130 at H
  refine ev_icmp_eq 150 dModel_judge_130 (by decide) (fun c1 => ?_) (fun c1 => ?_)
  · have H := H.1 c1
    refine ev_aload_n dModel_judge_150 rfl ?_
    refine ev_getR hok fk_Model_789 (woModel hw) (fun _ _ _ => rfl) (wrModel_139 hw) dModel_judge_151 ?_
    refine ev_iconst (0) dModel_judge_154 (by decide) ?_
    refine ev_lald hok (waModel_139 hw) (by unfold vp_in; decide) dModel_judge_155 ?_
    rw [show (0 : Int32).toNatClampNeg = 0 from rfl]
    refine ev_aload_n dModel_judge_156 rfl ?_
    refine ev_getR hok fk_Model_792 (woModel hw) (fun _ _ _ => rfl) (wrModel_140 hw) dModel_judge_157 ?_
    refine ev_iconst (1) dModel_judge_160 (by decide) ?_
    refine ev_lald hok (waModel_140 hw) (by unfold vp_in; decide) dModel_judge_161 ?_
    rw [show (1 : Int32).toNatClampNeg = 1 from rfl]
    refine ev_lmul dModel_judge_162 ?_
    refine ev_lstore dModel_judge_163 (by decide) ?_
    refine ev_aload_n dModel_judge_165 rfl ?_
    refine ev_getR hok fk_Model_789 (woModel hw) (fun _ _ _ => rfl) (wrModel_139 hw) dModel_judge_166 ?_
    refine ev_iconst (1) dModel_judge_169 (by decide) ?_
    refine ev_lald hok (waModel_139 hw) (by unfold vp_in; decide) dModel_judge_170 ?_
    rw [show (1 : Int32).toNatClampNeg = 1 from rfl]
    refine ev_aload_n dModel_judge_171 rfl ?_
    refine ev_getR hok fk_Model_792 (woModel hw) (fun _ _ _ => rfl) (wrModel_140 hw) dModel_judge_172 ?_
    refine ev_iconst (0) dModel_judge_175 (by decide) ?_
    refine ev_lald hok (waModel_140 hw) (by unfold vp_in; decide) dModel_judge_176 ?_
    rw [show (0 : Int32).toNatClampNeg = 0 from rfl]
    refine ev_lmul dModel_judge_177 ?_
    refine ev_lstore dModel_judge_178 (by decide) ?_
    refine ev_lload dModel_judge_180 rfl ?_
    refine ev_lload dModel_judge_182 rfl ?_
    refine ev_lcmp dModel_judge_184 ?_
    refine ev_if_eq 202 dModel_judge_185 (by decide) (fun c2 => ?_) (fun c2 => ?_)
    · have H := H.1 c2
      refine ev_aload_n dModel_judge_202 rfl ?_
      refine ev_getR hok fk_Model_795 (woModel hw) (fun _ _ _ => rfl) (wrModel_141 hw) dModel_judge_203 ?_
      refine ev_iconst (0) dModel_judge_206 (by decide) ?_
      refine ev_lald hok (waModel_141 hw) (by unfold vp_in; decide) dModel_judge_207 ?_
      rw [show (0 : Int32).toNatClampNeg = 0 from rfl]
      refine ev_aload_n dModel_judge_208 rfl ?_
      refine ev_getR hok fk_Model_795 (woModel hw) (fun _ _ _ => rfl) (wrModel_141 hw) dModel_judge_209 ?_
      refine ev_iconst (1) dModel_judge_212 (by decide) ?_
      refine ev_lald hok (waModel_141 hw) (by unfold vp_in; decide) dModel_judge_213 ?_
      rw [show (1 : Int32).toNatClampNeg = 1 from rfl]
      refine ev_lcmp dModel_judge_214 ?_
      refine ev_if_le 222 dModel_judge_215 (by decide) (fun c3 => ?_) (fun c3 => ?_)
      · have H := H.1 c3
        refine ev_aload_n dModel_judge_222 rfl ?_
        refine ev_getR hok fk_Model_795 (woModel hw) (fun _ _ _ => rfl) (wrModel_141 hw) dModel_judge_223 ?_
        refine ev_iconst (0) dModel_judge_226 (by decide) ?_
        refine ev_lald hok (waModel_141 hw) (by unfold vp_in; decide) dModel_judge_227 ?_
        rw [show (0 : Int32).toNatClampNeg = 0 from rfl]
        refine ev_aload_n dModel_judge_228 rfl ?_
        refine ev_getR hok fk_Model_795 (woModel hw) (fun _ _ _ => rfl) (wrModel_141 hw) dModel_judge_229 ?_
        refine ev_iconst (1) dModel_judge_232 (by decide) ?_
        refine ev_lald hok (waModel_141 hw) (by unfold vp_in; decide) dModel_judge_233 ?_
        rw [show (1 : Int32).toNatClampNeg = 1 from rfl]
        refine ev_lcmp dModel_judge_234 ?_
        refine ev_if_ge 242 dModel_judge_235 (by decide) (fun c4 => ?_) (fun c4 => ?_)
        · have H := H.1 c4
          refine ev_iconst (2) dModel_judge_242 (by decide) ?_
          exact ev_iret rfl dModel_judge_243 H
        · have H := H.2 c4
          refine ev_iconst (1) dModel_judge_238 (by decide) ?_
          refine ev_goto 243 dModel_judge_239 (by decide) ?_
          exact ev_iret rfl dModel_judge_243 H
      · have H := H.2 c3
        refine ev_iconst (0) dModel_judge_218 (by decide) ?_
        refine ev_goto 243 dModel_judge_219 (by decide) ?_
        exact ev_iret rfl dModel_judge_243 H
    · have H := H.2 c2
      refine ev_lload dModel_judge_188 rfl ?_
      refine ev_lload dModel_judge_190 rfl ?_
      refine ev_lcmp dModel_judge_192 ?_
      refine ev_if_ge 200 dModel_judge_193 (by decide) (fun c5 => ?_) (fun c5 => ?_)
      · have H := H.1 c5
        refine ev_iconst (1) dModel_judge_200 (by decide) ?_
        exact ev_iret rfl dModel_judge_201 H
      · have H := H.2 c5
        refine ev_iconst (0) dModel_judge_196 (by decide) ?_
        refine ev_goto 201 dModel_judge_197 (by decide) ?_
        exact ev_iret rfl dModel_judge_201 H
  · have H := H.2 c1
    refine ev_aload_n dModel_judge_133 rfl ?_
    refine ev_getR hok fk_Model_792 (woModel hw) (fun _ _ _ => rfl) (wrModel_140 hw) dModel_judge_134 ?_
    refine ev_iconst (0) dModel_judge_137 (by decide) ?_
    refine ev_lald hok (waModel_140 hw) (by unfold vp_in; decide) dModel_judge_138 ?_
    rw [show (0 : Int32).toNatClampNeg = 0 from rfl]
    refine ev_lconst 0 dModel_judge_139 (by decide) ?_
    refine ev_lcmp dModel_judge_140 ?_
    refine ev_if_le 148 dModel_judge_141 (by decide) (fun c6 => ?_) (fun c6 => ?_)
    · have H := H.1 c6
      refine ev_iconst (1) dModel_judge_148 (by decide) ?_
      exact ev_iret rfl dModel_judge_149 H
    · have H := H.2 c6
      refine ev_iconst (0) dModel_judge_144 (by decide) ?_
      refine ev_goto 149 dModel_judge_145 (by decide) ?_
      exact ev_iret rfl dModel_judge_149 H
def fModel_judge_114 (D : va_G) (cA : FieldType → ClassId) (b : Nat) (E : State → Prop) (o : Nat) (n : Nat) (sh : Nat → qC) (Rf : Nat → Nat → Option Nat) (I : Nat → Nat → Int32) (L : Nat → Nat → Int64) (post : Option Value → qS → Prop) (x1 : Int32) (x2 : Int32) (x3 : Int32) (x4 : Int32) (z0 : Int32) : Prop :=
  ((¬ (lg_cmp (L (o + 79) 1) 0) = 0 → fModel_judge_130 D cA b E o n sh Rf I L post x1 x2 x3 x4 0 z0) ∧ ((lg_cmp (L (o + 79) 1) 0) = 0 → fModel_judge_130 D cA b E o n sh Rf I L post x1 x2 x3 x4 1 z0))
set_option maxHeartbeats 4000000 in
set_option maxRecDepth 20000 in
theorem sModel_judge_114 {D : va_G} {cA : FieldType → ClassId} {b : Nat} {E : State → Prop} (o : Nat) (n : Nat) (sh : Nat → qC) (Rf : Nat → Nat → Option Nat) (I : Nat → Nat → Int32) (L : Nat → Nat → Int64) (post : Option Value → qS → Prop) (x1 : Int32) (x2 : Int32) (x3 : Int32) (x4 : Int32) (z0 : Int32) (hok : q_ok (qGG D cA b E)) (hw : WfModel (qGG D cA b E) n sh Rf o) (H : fModel_judge_114 D cA b E o n sh Rf I L post x1 x2 x3 x4 z0) : Ev (qGG D cA b E) mModel_judge 11 (0, 0) 114 [(0, .ref o), (1, .int x1), (2, .int x2), (3, .int x3), (4, .int x4)] [.int z0] (n, sh, Rf, I, L) post := by
  unfold fModel_judge_114 at H
  refine ev_aload_n dModel_judge_114 rfl ?_
  refine ev_getR hok fk_Model_792 (woModel hw) (fun _ _ _ => rfl) (wrModel_140 hw) dModel_judge_115 ?_
  refine ev_iconst (1) dModel_judge_118 (by decide) ?_
  refine ev_lald hok (waModel_140 hw) (by unfold vp_in; decide) dModel_judge_119 ?_
  rw [show (1 : Int32).toNatClampNeg = 1 from rfl]
  refine ev_lconst 0 dModel_judge_120 (by decide) ?_
  refine ev_lcmp dModel_judge_121 ?_
  refine ev_if_ne 129 dModel_judge_122 (by decide) (fun c1 => ?_) (fun c1 => ?_)
  · have H := H.1 c1
    refine ev_iconst (0) dModel_judge_129 (by decide) ?_
    exact ev_sub [(0, .ref o), (1, .int x1), (2, .int x2), (3, .int x3), (4, .int x4)] rfl (sModel_judge_130 o n sh Rf I L post x1 x2 x3 x4 0 z0 hok hw H)
  · have H := H.2 c1
    refine ev_iconst (1) dModel_judge_125 (by decide) ?_
    refine ev_goto 130 dModel_judge_126 (by decide) ?_
    exact ev_sub [(0, .ref o), (1, .int x1), (2, .int x2), (3, .int x3), (4, .int x4)] rfl (sModel_judge_130 o n sh Rf I L post x1 x2 x3 x4 1 z0 hok hw H)
def fModel_judge_60 (D : va_G) (cA : FieldType → ClassId) (b : Nat) (E : State → Prop) (o : Nat) (n : Nat) (sh : Nat → qC) (Rf : Nat → Nat → Option Nat) (I : Nat → Nat → Int32) (L : Nat → Nat → Int64) (post : Option Value → qS → Prop) (x1 : Int32) (x2 : Int32) (x3 : Int32) (x4 : Int32) : Prop :=
  (((lg_cmp (L (o + 77) 0) (L (o + 77) 1)) = 0 → ((¬ (lg_cmp (L (o + 79) 0) 0) = 0 → fModel_judge_114 D cA b E o n sh Rf I L post x1 x2 x3 x4 0) ∧ ((lg_cmp (L (o + 79) 0) 0) = 0 → fModel_judge_114 D cA b E o n sh Rf I L post x1 x2 x3 x4 1))) ∧ (¬ (lg_cmp (L (o + 77) 0) (L (o + 77) 1)) = 0 → ((0 ≤ (lg_cmp (L (o + 77) 0) (L (o + 77) 1)) → post (some (.int 1)) (n, sh, Rf, I, L)) ∧ (¬ 0 ≤ (lg_cmp (L (o + 77) 0) (L (o + 77) 1)) → post (some (.int 0)) (n, sh, Rf, I, L)))))
set_option maxHeartbeats 4000000 in
set_option maxRecDepth 20000 in
theorem sModel_judge_60 {D : va_G} {cA : FieldType → ClassId} {b : Nat} {E : State → Prop} (o : Nat) (n : Nat) (sh : Nat → qC) (Rf : Nat → Nat → Option Nat) (I : Nat → Nat → Int32) (L : Nat → Nat → Int64) (post : Option Value → qS → Prop) (x1 : Int32) (x2 : Int32) (x3 : Int32) (x4 : Int32) (hok : q_ok (qGG D cA b E)) (hw : WfModel (qGG D cA b E) n sh Rf o) (H : fModel_judge_60 D cA b E o n sh Rf I L post x1 x2 x3 x4) : Ev (qGG D cA b E) mModel_judge 11 (0, 0) 60 [(0, .ref o), (1, .int x1), (2, .int x2), (3, .int x3), (4, .int x4)] [] (n, sh, Rf, I, L) post := by
  unfold fModel_judge_60 at H
  refine ev_aload_n dModel_judge_60 rfl ?_
  refine ev_getR hok fk_Model_786 (woModel hw) (fun _ _ _ => rfl) (wrModel_138 hw) dModel_judge_61 ?_
  refine ev_iconst (0) dModel_judge_64 (by decide) ?_
  refine ev_lald hok (waModel_138 hw) (by unfold vp_in; decide) dModel_judge_65 ?_
  rw [show (0 : Int32).toNatClampNeg = 0 from rfl]
  refine ev_aload_n dModel_judge_66 rfl ?_
  refine ev_getR hok fk_Model_786 (woModel hw) (fun _ _ _ => rfl) (wrModel_138 hw) dModel_judge_67 ?_
  refine ev_iconst (1) dModel_judge_70 (by decide) ?_
  refine ev_lald hok (waModel_138 hw) (by unfold vp_in; decide) dModel_judge_71 ?_
  rw [show (1 : Int32).toNatClampNeg = 1 from rfl]
  refine ev_lcmp dModel_judge_72 ?_
  refine ev_if_eq 98 dModel_judge_73 (by decide) (fun c1 => ?_) (fun c1 => ?_)
  · have H := H.1 c1
    refine ev_aload_n dModel_judge_98 rfl ?_
    refine ev_getR hok fk_Model_792 (woModel hw) (fun _ _ _ => rfl) (wrModel_140 hw) dModel_judge_99 ?_
    refine ev_iconst (0) dModel_judge_102 (by decide) ?_
    refine ev_lald hok (waModel_140 hw) (by unfold vp_in; decide) dModel_judge_103 ?_
    rw [show (0 : Int32).toNatClampNeg = 0 from rfl]
    refine ev_lconst 0 dModel_judge_104 (by decide) ?_
    refine ev_lcmp dModel_judge_105 ?_
    refine ev_if_ne 113 dModel_judge_106 (by decide) (fun c2 => ?_) (fun c2 => ?_)
    · have H := H.1 c2
      refine ev_iconst (0) dModel_judge_113 (by decide) ?_
      exact ev_sub [(0, .ref o), (1, .int x1), (2, .int x2), (3, .int x3), (4, .int x4)] rfl (sModel_judge_114 o n sh Rf I L post x1 x2 x3 x4 0 hok hw H)
    · have H := H.2 c2
      refine ev_iconst (1) dModel_judge_109 (by decide) ?_
      refine ev_goto 114 dModel_judge_110 (by decide) ?_
      exact ev_sub [(0, .ref o), (1, .int x1), (2, .int x2), (3, .int x3), (4, .int x4)] rfl (sModel_judge_114 o n sh Rf I L post x1 x2 x3 x4 1 hok hw H)
  · have H := H.2 c1
    refine ev_aload_n dModel_judge_76 rfl ?_
    refine ev_getR hok fk_Model_786 (woModel hw) (fun _ _ _ => rfl) (wrModel_138 hw) dModel_judge_77 ?_
    refine ev_iconst (0) dModel_judge_80 (by decide) ?_
    refine ev_lald hok (waModel_138 hw) (by unfold vp_in; decide) dModel_judge_81 ?_
    rw [show (0 : Int32).toNatClampNeg = 0 from rfl]
    refine ev_aload_n dModel_judge_82 rfl ?_
    refine ev_getR hok fk_Model_786 (woModel hw) (fun _ _ _ => rfl) (wrModel_138 hw) dModel_judge_83 ?_
    refine ev_iconst (1) dModel_judge_86 (by decide) ?_
    refine ev_lald hok (waModel_138 hw) (by unfold vp_in; decide) dModel_judge_87 ?_
    rw [show (1 : Int32).toNatClampNeg = 1 from rfl]
    refine ev_lcmp dModel_judge_88 ?_
    refine ev_if_ge 96 dModel_judge_89 (by decide) (fun c3 => ?_) (fun c3 => ?_)
    · have H := H.1 c3
      refine ev_iconst (1) dModel_judge_96 (by decide) ?_
      exact ev_iret rfl dModel_judge_97 H
    · have H := H.2 c3
      refine ev_iconst (0) dModel_judge_92 (by decide) ?_
      refine ev_goto 97 dModel_judge_93 (by decide) ?_
      exact ev_iret rfl dModel_judge_97 H
def fModel_judge_0 (D : va_G) (cA : FieldType → ClassId) (b : Nat) (E : State → Prop) (o : Nat) (n : Nat) (sh : Nat → qC) (Rf : Nat → Nat → Option Nat) (I : Nat → Nat → Int32) (L : Nat → Nat → Int64) (post : Option Value → qS → Prop) (x1 : Int32) (x2 : Int32) (x3 : Int32) (x4 : Int32) : Prop :=
  Ev (qGG D cA b E) mModel_isIn 0 (0, 0) 0 (lv_args 0 [.int x1, .int 0, .int 3]) [] (n, sh, Rf, I, L) (fun v τ => ∃ (r2 : Int32) (I3 : Nat → Nat → Int32) (L4 : Nat → Nat → Int64), v = some (.int r2) ∧ τ = (n, sh, Rf, I3, L4) ∧ ((r2 = 0 → post (some (.int ((-1)))) (n, sh, Rf, I3, L4)) ∧ (¬ r2 = 0 → Ev (qGG D cA b E) mModel_isIn 0 (0, 0) 0 (lv_args 0 [.int x2, .int 0, .int 3]) [] (n, sh, Rf, I3, L4) (fun v τ => ∃ (r7 : Int32) (I8 : Nat → Nat → Int32) (L9 : Nat → Nat → Int64), v = some (.int r7) ∧ τ = (n, sh, Rf, I8, L9) ∧ ((r7 = 0 → post (some (.int ((-1)))) (n, sh, Rf, I8, L9)) ∧ (¬ r7 = 0 → Ev (qGG D cA b E) mModel_isIn 0 (0, 0) 0 (lv_args 0 [.int x3, .int 0, .int 240]) [] (n, sh, Rf, I8, L9) (fun v τ => ∃ (r12 : Int32) (I13 : Nat → Nat → Int32) (L14 : Nat → Nat → Int64), v = some (.int r12) ∧ τ = (n, sh, Rf, I13, L14) ∧ ((¬ r12 = 0 → Ev (qGG D cA b E) mModel_tryOut 10 (0, 0) 0 (lv_args 0 [.ref o, .int 0, .int x1, .int x3, .int x4]) [] (n, sh, Rf, I13, L14) (fun v τ => ∃ (I18 : Nat → Nat → Int32) (L19 : Nat → Nat → Int64), v = none ∧ τ = (n, sh, Rf, I18, L19) ∧ Ev (qGG D cA b E) mModel_tryOut 10 (0, 0) 0 (lv_args 0 [.ref o, .int 1, .int x2, .int x3, .int x4]) [] (n, sh, Rf, I18, L19) (fun v τ => ∃ (I22 : Nat → Nat → Int32) (L23 : Nat → Nat → Int64), v = none ∧ τ = (n, sh, Rf, I22, L23) ∧ (((I22 o 135) = 0 → fModel_judge_60 D cA b E o n sh Rf I22 L23 post x1 x2 x3 x4) ∧ (¬ (I22 o 135) = 0 → Ev (qGG D cA b E) mModel_restore 1 (0, 0) 0 (lv_args 0 [.ref o]) [] (n, sh, Rf, I22, L23) (fun v τ => ∃ (I27 : Nat → Nat → Int32) (L28 : Nat → Nat → Int64), v = none ∧ τ = (n, sh, Rf, I27, L28) ∧ fModel_judge_60 D cA b E o n sh Rf I27 L28 post x1 x2 x3 x4)))))) ∧ (r12 = 0 → post (some (.int ((-1)))) (n, sh, Rf, I13, L14))))))))))
set_option maxHeartbeats 4000000 in
set_option maxRecDepth 20000 in
theorem sModel_judge_0 {D : va_G} {cA : FieldType → ClassId} {b : Nat} {E : State → Prop} (o : Nat) (n : Nat) (sh : Nat → qC) (Rf : Nat → Nat → Option Nat) (I : Nat → Nat → Int32) (L : Nat → Nat → Int64) (post : Option Value → qS → Prop) (x1 : Int32) (x2 : Int32) (x3 : Int32) (x4 : Int32) (hok : q_ok (qGG D cA b E)) (hw : WfModel (qGG D cA b E) n sh Rf o) (H : fModel_judge_0 D cA b E o n sh Rf I L post x1 x2 x3 x4) : Ev (qGG D cA b E) mModel_judge 11 (0, 0) 0 [(0, .ref o), (1, .int x1), (2, .int x2), (3, .int x3), (4, .int x4)] [] (n, sh, Rf, I, L) post := by
  unfold fModel_judge_0 at H
  refine ev_iload_n dModel_judge_0 rfl ?_
  refine ev_iconst (0) dModel_judge_1 (by decide) ?_
  refine ev_iconst (3) dModel_judge_2 (by decide) ?_
  refine ev_callS [.int x1, .int 0, .int 3] [] (B' := (0, 0)) (B'' := (0, 0)) hok mmModel_isIn mk_Model_393 rfl (Nat.le_of_ble_eq_true rfl) rfl (Nat.le_of_ble_eq_true rfl) dModel_judge_3 rfl (by decide) H (fun v τ p1 => ?_)
  obtain ⟨r2, I3, L4, rfl, rfl, H⟩ := p1
  refine ev_if_eq 29 dModel_judge_6 (by decide) (fun c5 => ?_) (fun c5 => ?_)
  · have H := H.1 c5
    refine ev_iconst (-1) dModel_judge_29 (by decide) ?_
    exact ev_iret rfl dModel_judge_30 H
  · have H := H.2 c5
    refine ev_iload_n dModel_judge_9 rfl ?_
    refine ev_iconst (0) dModel_judge_10 (by decide) ?_
    refine ev_iconst (3) dModel_judge_11 (by decide) ?_
    refine ev_callS [.int x2, .int 0, .int 3] [] (B' := (0, 0)) (B'' := (0, 0)) hok mmModel_isIn mk_Model_393 rfl (Nat.le_of_ble_eq_true rfl) rfl (Nat.le_of_ble_eq_true rfl) dModel_judge_12 rfl (by decide) H (fun v τ p6 => ?_)
    obtain ⟨r7, I8, L9, rfl, rfl, H⟩ := p6
    refine ev_if_eq 29 dModel_judge_15 (by decide) (fun c10 => ?_) (fun c10 => ?_)
    · have H := H.1 c10
      refine ev_iconst (-1) dModel_judge_29 (by decide) ?_
      exact ev_iret rfl dModel_judge_30 H
    · have H := H.2 c10
      refine ev_iload_n dModel_judge_18 rfl ?_
      refine ev_iconst (0) dModel_judge_19 (by decide) ?_
      refine ev_sipush (240) dModel_judge_20 (by decide) ?_
      refine ev_callS [.int x3, .int 0, .int 240] [] (B' := (0, 0)) (B'' := (0, 0)) hok mmModel_isIn mk_Model_393 rfl (Nat.le_of_ble_eq_true rfl) rfl (Nat.le_of_ble_eq_true rfl) dModel_judge_23 rfl (by decide) H (fun v τ p11 => ?_)
      obtain ⟨r12, I13, L14, rfl, rfl, H⟩ := p11
      refine ev_if_ne 31 dModel_judge_26 (by decide) (fun c15 => ?_) (fun c15 => ?_)
      · have H := H.1 c15
        refine ev_aload_n dModel_judge_31 rfl ?_
        refine ev_iconst (0) dModel_judge_32 (by decide) ?_
        refine ev_iload_n dModel_judge_33 rfl ?_
        refine ev_iload_n dModel_judge_34 rfl ?_
        refine ev_iload dModel_judge_35 rfl ?_
        refine ev_callV [.int 0, .int x1, .int x3, .int x4] [] (B' := (0, 0)) (B'' := (0, 0)) hok mmModel_tryOut mk_Model_798 (ci := 12) rfl rfl (woModel hw) rfl (Nat.le_of_ble_eq_true rfl) rfl (Nat.le_of_ble_eq_true rfl) dModel_judge_37 rfl (by decide) H (fun v τ p16 => ?_)
        obtain ⟨I18, L19, rfl, rfl, H⟩ := p16
        refine ev_aload_n dModel_judge_40 rfl ?_
        refine ev_iconst (1) dModel_judge_41 (by decide) ?_
        refine ev_iload_n dModel_judge_42 rfl ?_
        refine ev_iload_n dModel_judge_43 rfl ?_
        refine ev_iload dModel_judge_44 rfl ?_
        refine ev_callV [.int 1, .int x2, .int x3, .int x4] [] (B' := (0, 0)) (B'' := (0, 0)) hok mmModel_tryOut mk_Model_798 (ci := 12) rfl rfl (woModel hw) rfl (Nat.le_of_ble_eq_true rfl) rfl (Nat.le_of_ble_eq_true rfl) dModel_judge_46 rfl (by decide) H (fun v τ p20 => ?_)
        obtain ⟨I22, L23, rfl, rfl, H⟩ := p20
        refine ev_aload_n dModel_judge_49 rfl ?_
        refine ev_getI hok fk_Model_172 (woModel hw) (fun _ _ _ => rfl) dModel_judge_50 ?_
        refine ev_if_eq 60 dModel_judge_53 (by decide) (fun c24 => ?_) (fun c24 => ?_)
        · have H := H.1 c24
          exact ev_sub [(0, .ref o), (1, .int x1), (2, .int x2), (3, .int x3), (4, .int x4)] rfl (sModel_judge_60 o n sh Rf I22 L23 post x1 x2 x3 x4 hok hw H)
        · have H := H.2 c24
          refine ev_aload_n dModel_judge_56 rfl ?_
          refine ev_callV [] [] (B' := (0, 0)) (B'' := (0, 0)) hok mmModel_restore mk_Model_802 (ci := 12) rfl rfl (woModel hw) rfl (Nat.le_of_ble_eq_true rfl) rfl (Nat.le_of_ble_eq_true rfl) dModel_judge_57 rfl (by decide) H (fun v τ p25 => ?_)
          obtain ⟨I27, L28, rfl, rfl, H⟩ := p25
          exact ev_sub [(0, .ref o), (1, .int x1), (2, .int x2), (3, .int x3), (4, .int x4)] rfl (sModel_judge_60 o n sh Rf I27 L28 post x1 x2 x3 x4 hok hw H)
      · have H := H.2 c15
        refine ev_iconst (-1) dModel_judge_29 (by decide) ?_
        exact ev_iret rfl dModel_judge_30 H
