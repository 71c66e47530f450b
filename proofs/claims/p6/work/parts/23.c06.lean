/-! Walks of the class: by program. -/
def fOffice_land_44 (D : va_G) (cA : FieldType → ClassId) (b : Nat) (E : State → Prop) (o : Nat) (n : Nat) (sh : Nat → qC) (Rf : Nat → Nat → Option Nat) (I : Nat → Nat → Int32) (L : Nat → Nat → Int64) (post : Option Value → qS → Prop) (x1 : Int32) (x2 : Nat) (uo_2 : Nat) (uo_1 : Nat) : Prop :=
  ∀ I1 : Nat → Nat → Int32, q_u I (o + 48) 6 0 = I1 → ∀ I2 : Nat → Nat → Int32, q_u I1 (o + 55) 15 0 = I2 → post (some (.int (((((I2 uo_1 0) + (I2 uo_1 1)) + (I2 uo_1 2)) + (I2 uo_1 3))))) (n, sh, Rf, I2, L)
set_option maxHeartbeats 4000000 in
set_option maxRecDepth 20000 in
theorem sOffice_land_44 {D : va_G} {cA : FieldType → ClassId} {b : Nat} {E : State → Prop} (o : Nat) (n : Nat) (sh : Nat → qC) (Rf : Nat → Nat → Option Nat) (I : Nat → Nat → Int32) (L : Nat → Nat → Int64) (post : Option Value → qS → Prop) (x1 : Int32) (x2 : Nat) (uo_2 : Nat) (uo_1 : Nat) (hok : q_ok (qGG D cA b E)) (hw : WfOffice (qGG D cA b E) n sh Rf o) (hwx2 : WfLand (qGG D cA b E) n sh Rf x2) (huo_2 : Rf o 2 = some uo_2) (hwuo_2 : WfLand (qGG D cA b E) n sh Rf uo_2) (huo_1 : Rf o 1 = some uo_1) (hwuo_1 : WfLand (qGG D cA b E) n sh Rf uo_1) (H : fOffice_land_44 D cA b E o n sh Rf I L post x1 x2 uo_2 uo_1) : Ev (qGG D cA b E) mOffice_land 11 (0, 0) 44 [(0, .ref o), (1, .int x1), (2, .ref x2)] [] (n, sh, Rf, I, L) post := by
  unfold fOffice_land_44 at H
  refine ev_aload_n dOffice_land_44 rfl ?_
  refine ev_getR hok fk_Office_47 (woOffice hw) (fun _ _ _ => rfl) (wrOffice_6 hw) dOffice_land_45 ?_
  refine ev_iconst (0) dOffice_land_48 (by decide) ?_
  refine ev_putI hok fk_Office_76 (woFacts (wsOffice_6 hw)) (fun _ _ _ => rfl) rfl rfl dOffice_land_49 ?_
  generalize eI1 : q_u I (o + 48) 6 0 = I1
  have H := H I1 eI1
  refine ev_aload_n dOffice_land_52 rfl ?_
  refine ev_getR hok fk_Office_58 (woOffice hw) (fun _ _ _ => rfl) (wrOffice_8 hw) dOffice_land_53 ?_
  refine ev_iconst (0) dOffice_land_56 (by decide) ?_
  refine ev_putI hok fk_Office_79 (woRun (wsOffice_8 hw)) (fun _ _ _ => rfl) (q_bz (Or.inl rfl)) (q_bf (Or.inl rfl)) dOffice_land_57 ?_
  generalize eI2 : q_u I1 (o + 55) 15 0 = I2
  have H := H I2 eI2
  refine ev_aload_n dOffice_land_60 rfl ?_
  refine ev_getR hok fk_Office_19 (woOffice hw) (fun _ _ _ => rfl) huo_1 dOffice_land_61 ?_
  refine ev_getI hok fk_Office_83 (woLand hwuo_1) (fun _ _ _ => rfl) dOffice_land_64 ?_
  refine ev_aload_n dOffice_land_67 rfl ?_
  refine ev_getR hok fk_Office_19 (woOffice hw) (fun _ _ _ => rfl) huo_1 dOffice_land_68 ?_
  refine ev_getI hok fk_Office_86 (woLand hwuo_1) (fun _ _ _ => rfl) dOffice_land_71 ?_
  refine ev_iadd dOffice_land_74 ?_
  refine ev_aload_n dOffice_land_75 rfl ?_
  refine ev_getR hok fk_Office_19 (woOffice hw) (fun _ _ _ => rfl) huo_1 dOffice_land_76 ?_
  refine ev_getI hok fk_Office_89 (woLand hwuo_1) (fun _ _ _ => rfl) dOffice_land_79 ?_
  refine ev_iadd dOffice_land_82 ?_
  refine ev_aload_n dOffice_land_83 rfl ?_
  refine ev_getR hok fk_Office_19 (woOffice hw) (fun _ _ _ => rfl) huo_1 dOffice_land_84 ?_
  refine ev_getI hok fk_Office_92 (woLand hwuo_1) (fun _ _ _ => rfl) dOffice_land_87 ?_
  refine ev_iadd dOffice_land_90 ?_
  exact ev_iret rfl dOffice_land_91 H
def fOffice_land_39 (D : va_G) (cA : FieldType → ClassId) (b : Nat) (E : State → Prop) (o : Nat) (n : Nat) (sh : Nat → qC) (Rf : Nat → Nat → Option Nat) (I : Nat → Nat → Int32) (L : Nat → Nat → Int64) (post : Option Value → qS → Prop) (x1 : Int32) (x2 : Nat) (uo_2 : Nat) (uo_1 : Nat) : Prop :=
  Ev (qGG D cA b E) mOffice_land 11 (0, 0) 44 [(0, .ref o), (1, .int x1), (2, .ref x2)] [] (n, sh, q_u Rf o 2 (some x2), I, L) post
set_option maxHeartbeats 4000000 in
set_option maxRecDepth 20000 in
theorem sOffice_land_39 {D : va_G} {cA : FieldType → ClassId} {b : Nat} {E : State → Prop} (o : Nat) (n : Nat) (sh : Nat → qC) (Rf : Nat → Nat → Option Nat) (I : Nat → Nat → Int32) (L : Nat → Nat → Int64) (post : Option Value → qS → Prop) (x1 : Int32) (x2 : Nat) (uo_2 : Nat) (uo_1 : Nat) (hok : q_ok (qGG D cA b E)) (hw : WfOffice (qGG D cA b E) n sh Rf o) (hwx2 : WfLand (qGG D cA b E) n sh Rf x2) (huo_2 : Rf o 2 = some uo_2) (hwuo_2 : WfLand (qGG D cA b E) n sh Rf uo_2) (huo_1 : Rf o 1 = some uo_1) (hwuo_1 : WfLand (qGG D cA b E) n sh Rf uo_1) (H : fOffice_land_39 D cA b E o n sh Rf I L post x1 x2 uo_2 uo_1) : Ev (qGG D cA b E) mOffice_land 11 (0, 0) 39 [(0, .ref o), (1, .int x1), (2, .ref x2)] [] (n, sh, Rf, I, L) post := by
  unfold fOffice_land_39 at H
  refine ev_aload_n dOffice_land_39 rfl ?_
  refine ev_aload_n dOffice_land_40 rfl ?_
  refine ev_putR hok fk_Office_23 (woOffice hw) (fun _ _ _ => rfl) rfl rfl dOffice_land_41 ?_
  exact ev_sub [(0, .ref o), (1, .int x1), (2, .ref x2)] rfl H
def fOffice_land_0 (D : va_G) (cA : FieldType → ClassId) (b : Nat) (E : State → Prop) (o : Nat) (n : Nat) (sh : Nat → qC) (Rf : Nat → Nat → Option Nat) (I : Nat → Nat → Int32) (L : Nat → Nat → Int64) (post : Option Value → qS → Prop) (uo_2 : Nat) (uo_1 : Nat) : Prop :=
  Ev (qGG D cA b E) mLand_read 10 (0, 0) 0 (lv_args 0 [.ref uo_2, .ref ((o + 1))]) [] (n, sh, Rf, I, L) (fun v τ => ∃ (r2 : Int32) (I3 : Nat → Nat → Int32) (L4 : Nat → Nat → Int64), v = some (.int r2) ∧ τ = (n, sh, Rf, I3, L4) ∧ ∀ I5 : Nat → Nat → Int32, q_u I3 (o + 1) 6 0 = I5 → ((¬ r2 = 0 → Ev (qGG D cA b E) mOffice_land 11 (0, 0) 39 [(0, .ref o), (1, .int r2), (2, .ref uo_1)] [] (n, sh, q_u Rf o 1 (some uo_2), I5, L4) post) ∧ (r2 = 0 → post (some (.int ((-1)))) (n, sh, Rf, I5, L4))))
set_option maxHeartbeats 4000000 in
set_option maxRecDepth 20000 in
theorem sOffice_land_0 {D : va_G} {cA : FieldType → ClassId} {b : Nat} {E : State → Prop} (o : Nat) (n : Nat) (sh : Nat → qC) (Rf : Nat → Nat → Option Nat) (I : Nat → Nat → Int32) (L : Nat → Nat → Int64) (post : Option Value → qS → Prop) (uo_2 : Nat) (uo_1 : Nat) (hok : q_ok (qGG D cA b E)) (hw : WfOffice (qGG D cA b E) n sh Rf o) (huo_2 : Rf o 2 = some uo_2) (hwuo_2 : WfLand (qGG D cA b E) n sh Rf uo_2) (huo_1 : Rf o 1 = some uo_1) (hwuo_1 : WfLand (qGG D cA b E) n sh Rf uo_1) (H : fOffice_land_0 D cA b E o n sh Rf I L post uo_2 uo_1) : Ev (qGG D cA b E) mOffice_land 11 (0, 0) 0 [(0, .ref o)] [] (n, sh, Rf, I, L) post := by
  unfold fOffice_land_0 at H
  refine ev_aload_n dOffice_land_0 rfl ?_
  refine ev_getR hok fk_Office_23 (woOffice hw) (fun _ _ _ => rfl) huo_2 dOffice_land_1 ?_
  refine ev_aload_n dOffice_land_4 rfl ?_
  refine ev_getR hok fk_Office_12 (woOffice hw) (fun _ _ _ => rfl) (wrOffice_0 hw) dOffice_land_5 ?_
  refine ev_callV [.ref ((o + 1))] [] (B' := (0, 0)) (B'' := (0, 0)) hok mmLand_read mk_Office_72 (ci := 1) rfl rfl (woLand hwuo_2) rfl (Nat.le_of_ble_eq_true rfl) rfl (Nat.le_of_ble_eq_true rfl) dOffice_land_8 rfl (by decide) H (fun v τ p1 => ?_)
  obtain ⟨r2, I3, L4, rfl, rfl, H⟩ := p1
  refine ev_istore_n dOffice_land_11 (by decide) ?_
  refine ev_aload_n dOffice_land_12 rfl ?_
  refine ev_getR hok fk_Office_12 (woOffice hw) (fun _ _ _ => rfl) (wrOffice_0 hw) dOffice_land_13 ?_
  refine ev_iconst (0) dOffice_land_16 (by decide) ?_
  refine ev_putI hok fk_Office_65 (woTape (wsOffice_0 hw)) (fun _ _ _ => rfl) rfl rfl dOffice_land_17 ?_
  generalize eI5 : q_u I3 (o + 1) 6 0 = I5
  have H := H I5 eI5
  refine ev_iload_n dOffice_land_20 rfl ?_
  refine ev_if_ne 26 dOffice_land_21 (by decide) (fun c6 => ?_) (fun c6 => ?_)
  · have H := H.1 c6
    refine ev_aload_n dOffice_land_26 rfl ?_
    refine ev_getR hok fk_Office_19 (woOffice hw) (fun _ _ _ => rfl) huo_1 dOffice_land_27 ?_
    refine ev_astore_n dOffice_land_30 (by decide) ?_
    refine ev_aload_n dOffice_land_31 rfl ?_
    refine ev_aload_n dOffice_land_32 rfl ?_
    refine ev_getR hok fk_Office_23 (woOffice hw) (fun _ _ _ => rfl) huo_2 dOffice_land_33 ?_
    refine ev_putR hok fk_Office_19 (woOffice hw) (fun _ _ _ => rfl) rfl rfl dOffice_land_36 ?_
    exact ev_sub [(0, .ref o), (1, .int r2), (2, .ref uo_1)] rfl H
  · have H := H.2 c6
    refine ev_iconst (-1) dOffice_land_24 (by decide) ?_
    exact ev_iret rfl dOffice_land_25 H
def fReform_readBoth_8 (D : va_G) (cA : FieldType → ClassId) (b : Nat) (E : State → Prop) (o : Nat) (n : Nat) (sh : Nat → qC) (Rf : Nat → Nat → Option Nat) (I : Nat → Nat → Int32) (L : Nat → Nat → Int64) (post : Option Value → qS → Prop) (x1 : Nat) (x2 : Int32) (x3 : Int32) (d : Nat) : Prop :=
  ((700 ≤ x3 → post none (n, sh, Rf, I, L)) ∧ (¬ 700 ≤ x3 → Ev (qGG D cA b E) mTape_isWord 0 (0, 0) 0 (lv_args 0 [.ref x1, .int 20]) [] (n, sh, Rf, I, L) (fun v τ => ∃ (r3 : Int32) (I4 : Nat → Nat → Int32) (L5 : Nat → Nat → Int64), v = some (.int r3) ∧ τ = (n, sh, Rf, I4, L5) ∧ ((r3 = 0 → post none (n, sh, Rf, I4, L5)) ∧ (¬ r3 = 0 → Ev (qGG D cA b E) mTape_step 0 (0, 0) 0 (lv_args 0 [.ref x1]) [] (n, sh, Rf, I4, L5) (fun v τ => ∃ (I9 : Nat → Nat → Int32) (L10 : Nat → Nat → Int64), v = none ∧ τ = (n, sh, Rf, I9, L10) ∧ Ev (qGG D cA b E) mReform_readOne d (0, 0) 0 (lv_args 0 [.ref o, .ref x1, .int x2]) [] (n, sh, Rf, I9, L10) (fun v τ => ∃ (I13 : Nat → Nat → Int32) (L14 : Nat → Nat → Int64), v = none ∧ τ = (n, sh, Rf, I13, L14) ∧ Ev (qGG D cA b E) mReform_emit 0 (0, 0) 0 (lv_args 0 [.ref o, .int 20]) [] (n, sh, Rf, I13, L14) (fun v τ => ∃ (I17 : Nat → Nat → Int32) (L18 : Nat → Nat → Int64), v = none ∧ τ = (n, sh, Rf, I17, L18) ∧ Ev (qGG D cA b E) mReform_readBoth (d + 1) (0, 0) 8 [(0, .ref o), (1, .ref x1), (2, .int x2), (3, .int ((x3 + Int32.ofInt 1)))] [] (n, sh, Rf, I17, L18) post))))))))
set_option maxHeartbeats 4000000 in
set_option maxRecDepth 20000 in
theorem sReform_readBoth_8 {D : va_G} {cA : FieldType → ClassId} {b : Nat} {E : State → Prop} (o : Nat) (n : Nat) (sh : Nat → qC) (Rf : Nat → Nat → Option Nat) (I : Nat → Nat → Int32) (L : Nat → Nat → Int64) (post : Option Value → qS → Prop) (x1 : Nat) (x2 : Int32) (x3 : Int32) (d : Nat) (hok : q_ok (qGG D cA b E)) (hw : WfReform (qGG D cA b E) n sh Rf o) (hw1 : WfTape (qGG D cA b E) n sh Rf x1) (hd0 : 5 ≤ d) (H : fReform_readBoth_8 D cA b E o n sh Rf I L post x1 x2 x3 d) : Ev (qGG D cA b E) mReform_readBoth (d + 1) (0, 0) 8 [(0, .ref o), (1, .ref x1), (2, .int x2), (3, .int x3)] [] (n, sh, Rf, I, L) post := by
  unfold fReform_readBoth_8 at H
  refine ev_iload_n dReform_readBoth_8 rfl ?_
  refine ev_sipush (700) dReform_readBoth_9 (by decide) ?_
  refine ev_icmp_ge 46 dReform_readBoth_12 (by decide) (fun c1 => ?_) (fun c1 => ?_)
  · have H := H.1 c1
    exact ev_vret rfl dReform_readBoth_46 H
  · have H := H.2 c1
    refine ev_aload_n dReform_readBoth_15 rfl ?_
    refine ev_bipush (20) dReform_readBoth_16 (by decide) ?_
    refine ev_callV [.int 20] [] (B' := (0, 0)) (B'' := (0, 0)) hok mmTape_isWord mk_Reform_97 (ci := 8) rfl rfl (woTape hw1) rfl (Nat.le_of_ble_eq_true rfl) rfl (Nat.le_of_ble_eq_true rfl) dReform_readBoth_18 rfl (by omega) H (fun v τ p2 => ?_)
    obtain ⟨r3, I4, L5, rfl, rfl, H⟩ := p2
    refine ev_if_eq 46 dReform_readBoth_21 (by decide) (fun c6 => ?_) (fun c6 => ?_)
    · have H := H.1 c6
      exact ev_vret rfl dReform_readBoth_46 H
    · have H := H.2 c6
      refine ev_aload_n dReform_readBoth_24 rfl ?_
      refine ev_callV [] [] (B' := (0, 0)) (B'' := (0, 0)) hok mmTape_step mk_Reform_77 (ci := 8) rfl rfl (woTape hw1) rfl (Nat.le_of_ble_eq_true rfl) rfl (Nat.le_of_ble_eq_true rfl) dReform_readBoth_25 rfl (by omega) H (fun v τ p7 => ?_)
      obtain ⟨I9, L10, rfl, rfl, H⟩ := p7
      refine ev_aload_n dReform_readBoth_28 rfl ?_
      refine ev_aload_n dReform_readBoth_29 rfl ?_
      refine ev_iload_n dReform_readBoth_30 rfl ?_
      refine ev_callV [.ref x1, .int x2] [] (B' := (0, 0)) (B'' := (0, 0)) hok mmReform_readOne mk_Reform_104 (ci := 6) rfl rfl (woReform hw) rfl (Nat.le_of_ble_eq_true rfl) rfl (Nat.le_of_ble_eq_true rfl) dReform_readBoth_31 rfl (Nat.le_refl _) H (fun v τ p11 => ?_)
      obtain ⟨I13, L14, rfl, rfl, H⟩ := p11
      refine ev_aload_n dReform_readBoth_34 rfl ?_
      refine ev_bipush (20) dReform_readBoth_35 (by decide) ?_
      refine ev_callV [.int 20] [] (B' := (0, 0)) (B'' := (0, 0)) hok mmReform_emit mk_Reform_101 (ci := 6) rfl rfl (woReform hw) rfl (Nat.le_of_ble_eq_true rfl) rfl (Nat.le_of_ble_eq_true rfl) dReform_readBoth_37 rfl (by omega) H (fun v τ p15 => ?_)
      obtain ⟨I17, L18, rfl, rfl, H⟩ := p15
      refine ev_iinc dReform_readBoth_40 rfl (by decide) ?_
      refine ev_goto 8 dReform_readBoth_43 (by decide) ?_
      exact ev_sub [(0, .ref o), (1, .ref x1), (2, .int x2), (3, .int ((x3 + Int32.ofInt 1)))] rfl H
def fReform_readBoth_0 (D : va_G) (cA : FieldType → ClassId) (b : Nat) (E : State → Prop) (o : Nat) (n : Nat) (sh : Nat → qC) (Rf : Nat → Nat → Option Nat) (I : Nat → Nat → Int32) (L : Nat → Nat → Int64) (post : Option Value → qS → Prop) (x1 : Nat) (x2 : Int32) (d : Nat) : Prop :=
  Ev (qGG D cA b E) mReform_readOne d (0, 0) 0 (lv_args 0 [.ref o, .ref x1, .int x2]) [] (n, sh, Rf, I, L) (fun v τ => ∃ (I3 : Nat → Nat → Int32) (L4 : Nat → Nat → Int64), v = none ∧ τ = (n, sh, Rf, I3, L4) ∧ Ev (qGG D cA b E) mReform_readBoth (d + 1) (0, 0) 8 [(0, .ref o), (1, .ref x1), (2, .int x2), (3, .int 0)] [] (n, sh, Rf, I3, L4) post)
set_option maxHeartbeats 4000000 in
set_option maxRecDepth 20000 in
theorem sReform_readBoth_0 {D : va_G} {cA : FieldType → ClassId} {b : Nat} {E : State → Prop} (o : Nat) (n : Nat) (sh : Nat → qC) (Rf : Nat → Nat → Option Nat) (I : Nat → Nat → Int32) (L : Nat → Nat → Int64) (post : Option Value → qS → Prop) (x1 : Nat) (x2 : Int32) (d : Nat) (hok : q_ok (qGG D cA b E)) (hw : WfReform (qGG D cA b E) n sh Rf o) (hw1 : WfTape (qGG D cA b E) n sh Rf x1) (hd0 : 5 ≤ d) (H : fReform_readBoth_0 D cA b E o n sh Rf I L post x1 x2 d) : Ev (qGG D cA b E) mReform_readBoth (d + 1) (0, 0) 0 [(0, .ref o), (1, .ref x1), (2, .int x2)] [] (n, sh, Rf, I, L) post := by
  unfold fReform_readBoth_0 at H
  refine ev_aload_n dReform_readBoth_0 rfl ?_
  refine ev_aload_n dReform_readBoth_1 rfl ?_
  refine ev_iload_n dReform_readBoth_2 rfl ?_
  refine ev_callV [.ref x1, .int x2] [] (B' := (0, 0)) (B'' := (0, 0)) hok mmReform_readOne mk_Reform_104 (ci := 6) rfl rfl (woReform hw) rfl (Nat.le_of_ble_eq_true rfl) rfl (Nat.le_of_ble_eq_true rfl) dReform_readBoth_3 rfl (Nat.le_refl _) H (fun v τ p1 => ?_)
  obtain ⟨I3, L4, rfl, rfl, H⟩ := p1
  refine ev_iconst (0) dReform_readBoth_6 (by decide) ?_
  refine ev_istore_n dReform_readBoth_7 (by decide) ?_
  exact ev_sub [(0, .ref o), (1, .ref x1), (2, .int x2), (3, .int 0)] rfl H
def fReform_readEither_8 (D : va_G) (cA : FieldType → ClassId) (b : Nat) (E : State → Prop) (o : Nat) (n : Nat) (sh : Nat → qC) (Rf : Nat → Nat → Option Nat) (I : Nat → Nat → Int32) (L : Nat → Nat → Int64) (post : Option Value → qS → Prop) (x1 : Nat) (x2 : Int32) (x3 : Int32) (d : Nat) : Prop :=
  ((700 ≤ x3 → post none (n, sh, Rf, I, L)) ∧ (¬ 700 ≤ x3 → Ev (qGG D cA b E) mTape_isWord 0 (0, 0) 0 (lv_args 0 [.ref x1, .int 21]) [] (n, sh, Rf, I, L) (fun v τ => ∃ (r3 : Int32) (I4 : Nat → Nat → Int32) (L5 : Nat → Nat → Int64), v = some (.int r3) ∧ τ = (n, sh, Rf, I4, L5) ∧ ((r3 = 0 → post none (n, sh, Rf, I4, L5)) ∧ (¬ r3 = 0 → Ev (qGG D cA b E) mTape_step 0 (0, 0) 0 (lv_args 0 [.ref x1]) [] (n, sh, Rf, I4, L5) (fun v τ => ∃ (I9 : Nat → Nat → Int32) (L10 : Nat → Nat → Int64), v = none ∧ τ = (n, sh, Rf, I9, L10) ∧ Ev (qGG D cA b E) mReform_readBoth d (0, 0) 0 (lv_args 0 [.ref o, .ref x1, .int x2]) [] (n, sh, Rf, I9, L10) (fun v τ => ∃ (I13 : Nat → Nat → Int32) (L14 : Nat → Nat → Int64), v = none ∧ τ = (n, sh, Rf, I13, L14) ∧ Ev (qGG D cA b E) mReform_emit 0 (0, 0) 0 (lv_args 0 [.ref o, .int 21]) [] (n, sh, Rf, I13, L14) (fun v τ => ∃ (I17 : Nat → Nat → Int32) (L18 : Nat → Nat → Int64), v = none ∧ τ = (n, sh, Rf, I17, L18) ∧ Ev (qGG D cA b E) mReform_readEither (d + 1) (0, 0) 8 [(0, .ref o), (1, .ref x1), (2, .int x2), (3, .int ((x3 + Int32.ofInt 1)))] [] (n, sh, Rf, I17, L18) post))))))))
set_option maxHeartbeats 4000000 in
set_option maxRecDepth 20000 in
theorem sReform_readEither_8 {D : va_G} {cA : FieldType → ClassId} {b : Nat} {E : State → Prop} (o : Nat) (n : Nat) (sh : Nat → qC) (Rf : Nat → Nat → Option Nat) (I : Nat → Nat → Int32) (L : Nat → Nat → Int64) (post : Option Value → qS → Prop) (x1 : Nat) (x2 : Int32) (x3 : Int32) (d : Nat) (hok : q_ok (qGG D cA b E)) (hw : WfReform (qGG D cA b E) n sh Rf o) (hw1 : WfTape (qGG D cA b E) n sh Rf x1) (hd0 : 5 ≤ d) (H : fReform_readEither_8 D cA b E o n sh Rf I L post x1 x2 x3 d) : Ev (qGG D cA b E) mReform_readEither (d + 1) (0, 0) 8 [(0, .ref o), (1, .ref x1), (2, .int x2), (3, .int x3)] [] (n, sh, Rf, I, L) post := by
  unfold fReform_readEither_8 at H
  refine ev_iload_n dReform_readEither_8 rfl ?_
  refine ev_sipush (700) dReform_readEither_9 (by decide) ?_
  refine ev_icmp_ge 46 dReform_readEither_12 (by decide) (fun c1 => ?_) (fun c1 => ?_)
  · have H := H.1 c1
    exact ev_vret rfl dReform_readEither_46 H
  · have H := H.2 c1
    refine ev_aload_n dReform_readEither_15 rfl ?_
    refine ev_bipush (21) dReform_readEither_16 (by decide) ?_
    refine ev_callV [.int 21] [] (B' := (0, 0)) (B'' := (0, 0)) hok mmTape_isWord mk_Reform_97 (ci := 8) rfl rfl (woTape hw1) rfl (Nat.le_of_ble_eq_true rfl) rfl (Nat.le_of_ble_eq_true rfl) dReform_readEither_18 rfl (by omega) H (fun v τ p2 => ?_)
    obtain ⟨r3, I4, L5, rfl, rfl, H⟩ := p2
    refine ev_if_eq 46 dReform_readEither_21 (by decide) (fun c6 => ?_) (fun c6 => ?_)
    · have H := H.1 c6
      exact ev_vret rfl dReform_readEither_46 H
    · have H := H.2 c6
      refine ev_aload_n dReform_readEither_24 rfl ?_
      refine ev_callV [] [] (B' := (0, 0)) (B'' := (0, 0)) hok mmTape_step mk_Reform_77 (ci := 8) rfl rfl (woTape hw1) rfl (Nat.le_of_ble_eq_true rfl) rfl (Nat.le_of_ble_eq_true rfl) dReform_readEither_25 rfl (by omega) H (fun v τ p7 => ?_)
      obtain ⟨I9, L10, rfl, rfl, H⟩ := p7
      refine ev_aload_n dReform_readEither_28 rfl ?_
      refine ev_aload_n dReform_readEither_29 rfl ?_
      refine ev_iload_n dReform_readEither_30 rfl ?_
      refine ev_callV [.ref x1, .int x2] [] (B' := (0, 0)) (B'' := (0, 0)) hok mmReform_readBoth mk_Reform_94 (ci := 6) rfl rfl (woReform hw) rfl (Nat.le_of_ble_eq_true rfl) rfl (Nat.le_of_ble_eq_true rfl) dReform_readEither_31 rfl (Nat.le_refl _) H (fun v τ p11 => ?_)
      obtain ⟨I13, L14, rfl, rfl, H⟩ := p11
      refine ev_aload_n dReform_readEither_34 rfl ?_
      refine ev_bipush (21) dReform_readEither_35 (by decide) ?_
      refine ev_callV [.int 21] [] (B' := (0, 0)) (B'' := (0, 0)) hok mmReform_emit mk_Reform_101 (ci := 6) rfl rfl (woReform hw) rfl (Nat.le_of_ble_eq_true rfl) rfl (Nat.le_of_ble_eq_true rfl) dReform_readEither_37 rfl (by omega) H (fun v τ p15 => ?_)
      obtain ⟨I17, L18, rfl, rfl, H⟩ := p15
      refine ev_iinc dReform_readEither_40 rfl (by decide) ?_
      refine ev_goto 8 dReform_readEither_43 (by decide) ?_
      exact ev_sub [(0, .ref o), (1, .ref x1), (2, .int x2), (3, .int ((x3 + Int32.ofInt 1)))] rfl H
def fReform_readEither_0 (D : va_G) (cA : FieldType → ClassId) (b : Nat) (E : State → Prop) (o : Nat) (n : Nat) (sh : Nat → qC) (Rf : Nat → Nat → Option Nat) (I : Nat → Nat → Int32) (L : Nat → Nat → Int64) (post : Option Value → qS → Prop) (x1 : Nat) (x2 : Int32) (d : Nat) : Prop :=
  Ev (qGG D cA b E) mReform_readBoth d (0, 0) 0 (lv_args 0 [.ref o, .ref x1, .int x2]) [] (n, sh, Rf, I, L) (fun v τ => ∃ (I3 : Nat → Nat → Int32) (L4 : Nat → Nat → Int64), v = none ∧ τ = (n, sh, Rf, I3, L4) ∧ Ev (qGG D cA b E) mReform_readEither (d + 1) (0, 0) 8 [(0, .ref o), (1, .ref x1), (2, .int x2), (3, .int 0)] [] (n, sh, Rf, I3, L4) post)
set_option maxHeartbeats 4000000 in
set_option maxRecDepth 20000 in
theorem sReform_readEither_0 {D : va_G} {cA : FieldType → ClassId} {b : Nat} {E : State → Prop} (o : Nat) (n : Nat) (sh : Nat → qC) (Rf : Nat → Nat → Option Nat) (I : Nat → Nat → Int32) (L : Nat → Nat → Int64) (post : Option Value → qS → Prop) (x1 : Nat) (x2 : Int32) (d : Nat) (hok : q_ok (qGG D cA b E)) (hw : WfReform (qGG D cA b E) n sh Rf o) (hw1 : WfTape (qGG D cA b E) n sh Rf x1) (hd0 : 5 ≤ d) (H : fReform_readEither_0 D cA b E o n sh Rf I L post x1 x2 d) : Ev (qGG D cA b E) mReform_readEither (d + 1) (0, 0) 0 [(0, .ref o), (1, .ref x1), (2, .int x2)] [] (n, sh, Rf, I, L) post := by
  unfold fReform_readEither_0 at H
  refine ev_aload_n dReform_readEither_0 rfl ?_
  refine ev_aload_n dReform_readEither_1 rfl ?_
  refine ev_iload_n dReform_readEither_2 rfl ?_
  refine ev_callV [.ref x1, .int x2] [] (B' := (0, 0)) (B'' := (0, 0)) hok mmReform_readBoth mk_Reform_94 (ci := 6) rfl rfl (woReform hw) rfl (Nat.le_of_ble_eq_true rfl) rfl (Nat.le_of_ble_eq_true rfl) dReform_readEither_3 rfl (Nat.le_refl _) H (fun v τ p1 => ?_)
  obtain ⟨I3, L4, rfl, rfl, H⟩ := p1
  refine ev_iconst (0) dReform_readEither_6 (by decide) ?_
  refine ev_istore_n dReform_readEither_7 (by decide) ?_
  exact ev_sub [(0, .ref o), (1, .ref x1), (2, .int x2), (3, .int 0)] rfl H
def fReform_readOne_73 (D : va_G) (cA : FieldType → ClassId) (b : Nat) (E : State → Prop) (o : Nat) (n : Nat) (sh : Nat → qC) (Rf : Nat → Nat → Option Nat) (I : Nat → Nat → Int32) (L : Nat → Nat → Int64) (post : Option Value → qS → Prop) (x1 : Nat) (x2 : Int32) (d : Nat) : Prop :=
  Ev (qGG D cA b E) mTape_value 0 (0, 0) 0 (lv_args 0 [.ref x1]) [] (n, sh, Rf, I, L) (fun v τ => ∃ (r2 : Int32) (I3 : Nat → Nat → Int32) (L4 : Nat → Nat → Int64), v = some (.int r2) ∧ τ = (n, sh, Rf, I3, L4) ∧ Ev (qGG D cA b E) mTape_step 0 (0, 0) 0 (lv_args 0 [.ref x1]) [] (n, sh, Rf, I3, L4) (fun v τ => ∃ (I7 : Nat → Nat → Int32) (L8 : Nat → Nat → Int64), v = none ∧ τ = (n, sh, Rf, I7, L8) ∧ Ev (qGG D cA b E) mReform_readSum d (0, 0) 0 (lv_args 0 [.ref o, .ref x1, .int x2]) [] (n, sh, Rf, I7, L8) (fun v τ => ∃ (I11 : Nat → Nat → Int32) (L12 : Nat → Nat → Int64), v = none ∧ τ = (n, sh, Rf, I11, L12) ∧ Ev (qGG D cA b E) mReform_emit 0 (0, 0) 0 (lv_args 0 [.ref o, .int r2]) [] (n, sh, Rf, I11, L12) (fun v τ => ∃ (I15 : Nat → Nat → Int32) (L16 : Nat → Nat → Int64), v = none ∧ τ = (n, sh, Rf, I15, L16) ∧ post none (n, sh, Rf, I15, L16)))))
set_option maxHeartbeats 4000000 in
set_option maxRecDepth 20000 in
theorem sReform_readOne_73 {D : va_G} {cA : FieldType → ClassId} {b : Nat} {E : State → Prop} (o : Nat) (n : Nat) (sh : Nat → qC) (Rf : Nat → Nat → Option Nat) (I : Nat → Nat → Int32) (L : Nat → Nat → Int64) (post : Option Value → qS → Prop) (x1 : Nat) (x2 : Int32) (d : Nat) (hok : q_ok (qGG D cA b E)) (hw : WfReform (qGG D cA b E) n sh Rf o) (hw1 : WfTape (qGG D cA b E) n sh Rf x1) (hd0 : 5 ≤ d) (H : fReform_readOne_73 D cA b E o n sh Rf I L post x1 x2 d) : Ev (qGG D cA b E) mReform_readOne (d + 1) (0, 0) 73 [(0, .ref o), (1, .ref x1), (2, .int x2)] [] (n, sh, Rf, I, L) post := by
  unfold fReform_readOne_73 at H
  refine ev_aload_n dReform_readOne_73 rfl ?_
  refine ev_callV [] [] (B' := (0, 0)) (B'' := (0, 0)) hok mmTape_value mk_Reform_91 (ci := 8) rfl rfl (woTape hw1) rfl (Nat.le_of_ble_eq_true rfl) rfl (Nat.le_of_ble_eq_true rfl) dReform_readOne_74 rfl (by omega) H (fun v τ p1 => ?_)
  obtain ⟨r2, I3, L4, rfl, rfl, H⟩ := p1
  refine ev_istore_n dReform_readOne_77 (by decide) ?_
  refine ev_aload_n dReform_readOne_78 rfl ?_
  refine ev_callV [] [] (B' := (0, 0)) (B'' := (0, 0)) hok mmTape_step mk_Reform_77 (ci := 8) rfl rfl (woTape hw1) rfl (Nat.le_of_ble_eq_true rfl) rfl (Nat.le_of_ble_eq_true rfl) dReform_readOne_79 rfl (by omega) H (fun v τ p5 => ?_)
  obtain ⟨I7, L8, rfl, rfl, H⟩ := p5
  refine ev_aload_n dReform_readOne_82 rfl ?_
  refine ev_aload_n dReform_readOne_83 rfl ?_
  refine ev_iload_n dReform_readOne_84 rfl ?_
  refine ev_callV [.ref x1, .int x2] [] (B' := (0, 0)) (B'' := (0, 0)) hok mmReform_readSum mk_Reform_107 (ci := 6) rfl rfl (woReform hw) rfl (Nat.le_of_ble_eq_true rfl) rfl (Nat.le_of_ble_eq_true rfl) dReform_readOne_85 rfl (Nat.le_refl _) H (fun v τ p9 => ?_)
  obtain ⟨I11, L12, rfl, rfl, H⟩ := p9
  refine ev_aload_n dReform_readOne_88 rfl ?_
  refine ev_iload_n dReform_readOne_89 rfl ?_
  refine ev_callV [.int r2] [] (B' := (0, 0)) (B'' := (0, 0)) hok mmReform_emit mk_Reform_101 (ci := 6) rfl rfl (woReform hw) rfl (Nat.le_of_ble_eq_true rfl) rfl (Nat.le_of_ble_eq_true rfl) dReform_readOne_90 rfl (by omega) H (fun v τ p13 => ?_)
  obtain ⟨I15, L16, rfl, rfl, H⟩ := p13
  exact ev_vret rfl dReform_readOne_93 H
def fReform_readOne_0 (D : va_G) (cA : FieldType → ClassId) (b : Nat) (E : State → Prop) (o : Nat) (n : Nat) (sh : Nat → qC) (Rf : Nat → Nat → Option Nat) (I : Nat → Nat → Int32) (L : Nat → Nat → Int64) (post : Option Value → qS → Prop) (x1 : Nat) (x2 : Int32) (d : Nat) : Prop :=
  Ev (qGG D cA b E) mTape_isWord 0 (0, 0) 0 (lv_args 0 [.ref x1, .int 22]) [] (n, sh, Rf, I, L) (fun v τ => ∃ (r2 : Int32) (I3 : Nat → Nat → Int32) (L4 : Nat → Nat → Int64), v = some (.int r2) ∧ τ = (n, sh, Rf, I3, L4) ∧ ((r2 = 0 → Ev (qGG D cA b E) mReform_readSum d (0, 0) 0 (lv_args 0 [.ref o, .ref x1, .int x2]) [] (n, sh, Rf, I3, L4) (fun v τ => ∃ (I8 : Nat → Nat → Int32) (L9 : Nat → Nat → Int64), v = none ∧ τ = (n, sh, Rf, I8, L9) ∧ Ev (qGG D cA b E) mTape_isSign 0 (0, 0) 0 (lv_args 0 [.ref x1, .int 60]) [] (n, sh, Rf, I8, L9) (fun v τ => ∃ (r11 : Int32) (I12 : Nat → Nat → Int32) (L13 : Nat → Nat → Int64), v = some (.int r11) ∧ τ = (n, sh, Rf, I12, L13) ∧ ((¬ r11 = 0 → fReform_readOne_73 D cA b E o n sh Rf I12 L13 post x1 x2 d) ∧ (r11 = 0 → Ev (qGG D cA b E) mTape_isSign 0 (0, 0) 0 (lv_args 0 [.ref x1, .int 62]) [] (n, sh, Rf, I12, L13) (fun v τ => ∃ (r16 : Int32) (I17 : Nat → Nat → Int32) (L18 : Nat → Nat → Int64), v = some (.int r16) ∧ τ = (n, sh, Rf, I17, L18) ∧ ((¬ r16 = 0 → fReform_readOne_73 D cA b E o n sh Rf I17 L18 post x1 x2 d) ∧ (r16 = 0 → Ev (qGG D cA b E) mTape_isSign 0 (0, 0) 0 (lv_args 0 [.ref x1, .int 61]) [] (n, sh, Rf, I17, L18) (fun v τ => ∃ (r21 : Int32) (I22 : Nat → Nat → Int32) (L23 : Nat → Nat → Int64), v = some (.int r21) ∧ τ = (n, sh, Rf, I22, L23) ∧ ((r21 = 0 → post none (n, sh, Rf, I22, L23)) ∧ (¬ r21 = 0 → fReform_readOne_73 D cA b E o n sh Rf I22 L23 post x1 x2 d))))))))))) ∧ (¬ r2 = 0 → ((x2 ≤ 6 → Ev (qGG D cA b E) mTape_step 0 (0, 0) 0 (lv_args 0 [.ref x1]) [] (n, sh, Rf, I3, L4) (fun v τ => ∃ (I28 : Nat → Nat → Int32) (L29 : Nat → Nat → Int64), v = none ∧ τ = (n, sh, Rf, I28, L29) ∧ Ev (qGG D cA b E) mReform_readOne d (0, 0) 0 (lv_args 0 [.ref o, .ref x1, .int ((x2 + 1))]) [] (n, sh, Rf, I28, L29) (fun v τ => ∃ (I32 : Nat → Nat → Int32) (L33 : Nat → Nat → Int64), v = none ∧ τ = (n, sh, Rf, I32, L33) ∧ Ev (qGG D cA b E) mReform_emit 0 (0, 0) 0 (lv_args 0 [.ref o, .int 22]) [] (n, sh, Rf, I32, L33) (fun v τ => ∃ (I36 : Nat → Nat → Int32) (L37 : Nat → Nat → Int64), v = none ∧ τ = (n, sh, Rf, I36, L37) ∧ post none (n, sh, Rf, I36, L37))))) ∧ (¬ x2 ≤ 6 → Ev (qGG D cA b E) mTape_refuse 0 (0, 0) 0 (lv_args 0 [.ref x1, .int 2]) [] (n, sh, Rf, I3, L4) (fun v τ => ∃ (I40 : Nat → Nat → Int32) (L41 : Nat → Nat → Int64), v = none ∧ τ = (n, sh, Rf, I40, L41) ∧ post none (n, sh, Rf, I40, L41)))))))
set_option maxHeartbeats 4000000 in
set_option maxRecDepth 20000 in
theorem sReform_readOne_0 {D : va_G} {cA : FieldType → ClassId} {b : Nat} {E : State → Prop} (o : Nat) (n : Nat) (sh : Nat → qC) (Rf : Nat → Nat → Option Nat) (I : Nat → Nat → Int32) (L : Nat → Nat → Int64) (post : Option Value → qS → Prop) (x1 : Nat) (x2 : Int32) (d : Nat) (hok : q_ok (qGG D cA b E)) (hw : WfReform (qGG D cA b E) n sh Rf o) (hw1 : WfTape (qGG D cA b E) n sh Rf x1) (hd0 : 5 ≤ d) (H : fReform_readOne_0 D cA b E o n sh Rf I L post x1 x2 d) : Ev (qGG D cA b E) mReform_readOne (d + 1) (0, 0) 0 [(0, .ref o), (1, .ref x1), (2, .int x2)] [] (n, sh, Rf, I, L) post := by
  unfold fReform_readOne_0 at H
  refine ev_aload_n dReform_readOne_0 rfl ?_
  refine ev_bipush (22) dReform_readOne_1 (by decide) ?_
  refine ev_callV [.int 22] [] (B' := (0, 0)) (B'' := (0, 0)) hok mmTape_isWord mk_Reform_97 (ci := 8) rfl rfl (woTape hw1) rfl (Nat.le_of_ble_eq_true rfl) rfl (Nat.le_of_ble_eq_true rfl) dReform_readOne_3 rfl (by omega) H (fun v τ p1 => ?_)
  obtain ⟨r2, I3, L4, rfl, rfl, H⟩ := p1
  refine ev_if_eq 40 dReform_readOne_6 (by decide) (fun c5 => ?_) (fun c5 => ?_)
  · have H := H.1 c5
    refine ev_aload_n dReform_readOne_40 rfl ?_
    refine ev_aload_n dReform_readOne_41 rfl ?_
    refine ev_iload_n dReform_readOne_42 rfl ?_
    refine ev_callV [.ref x1, .int x2] [] (B' := (0, 0)) (B'' := (0, 0)) hok mmReform_readSum mk_Reform_107 (ci := 6) rfl rfl (woReform hw) rfl (Nat.le_of_ble_eq_true rfl) rfl (Nat.le_of_ble_eq_true rfl) dReform_readOne_43 rfl (Nat.le_refl _) H (fun v τ p6 => ?_)
    obtain ⟨I8, L9, rfl, rfl, H⟩ := p6
    refine ev_aload_n dReform_readOne_46 rfl ?_
    refine ev_bipush (60) dReform_readOne_47 (by decide) ?_
    refine ev_callV [.int 60] [] (B' := (0, 0)) (B'' := (0, 0)) hok mmTape_isSign mk_Reform_110 (ci := 8) rfl rfl (woTape hw1) rfl (Nat.le_of_ble_eq_true rfl) rfl (Nat.le_of_ble_eq_true rfl) dReform_readOne_49 rfl (by omega) H (fun v τ p10 => ?_)
    obtain ⟨r11, I12, L13, rfl, rfl, H⟩ := p10
    refine ev_if_ne 73 dReform_readOne_52 (by decide) (fun c14 => ?_) (fun c14 => ?_)
    · have H := H.1 c14
      exact ev_sub [(0, .ref o), (1, .ref x1), (2, .int x2)] rfl (sReform_readOne_73 o n sh Rf I12 L13 post x1 x2 d hok hw hw1 hd0 H)
    · have H := H.2 c14
      refine ev_aload_n dReform_readOne_55 rfl ?_
      refine ev_bipush (62) dReform_readOne_56 (by decide) ?_
      refine ev_callV [.int 62] [] (B' := (0, 0)) (B'' := (0, 0)) hok mmTape_isSign mk_Reform_110 (ci := 8) rfl rfl (woTape hw1) rfl (Nat.le_of_ble_eq_true rfl) rfl (Nat.le_of_ble_eq_true rfl) dReform_readOne_58 rfl (by omega) H (fun v τ p15 => ?_)
      obtain ⟨r16, I17, L18, rfl, rfl, H⟩ := p15
      refine ev_if_ne 73 dReform_readOne_61 (by decide) (fun c19 => ?_) (fun c19 => ?_)
      · have H := H.1 c19
        exact ev_sub [(0, .ref o), (1, .ref x1), (2, .int x2)] rfl (sReform_readOne_73 o n sh Rf I17 L18 post x1 x2 d hok hw hw1 hd0 H)
      · have H := H.2 c19
        refine ev_aload_n dReform_readOne_64 rfl ?_
        refine ev_bipush (61) dReform_readOne_65 (by decide) ?_
        refine ev_callV [.int 61] [] (B' := (0, 0)) (B'' := (0, 0)) hok mmTape_isSign mk_Reform_110 (ci := 8) rfl rfl (woTape hw1) rfl (Nat.le_of_ble_eq_true rfl) rfl (Nat.le_of_ble_eq_true rfl) dReform_readOne_67 rfl (by omega) H (fun v τ p20 => ?_)
        obtain ⟨r21, I22, L23, rfl, rfl, H⟩ := p20
        refine ev_if_eq 93 dReform_readOne_70 (by decide) (fun c24 => ?_) (fun c24 => ?_)
        · have H := H.1 c24
          exact ev_vret rfl dReform_readOne_93 H
        · have H := H.2 c24
          exact ev_sub [(0, .ref o), (1, .ref x1), (2, .int x2)] rfl (sReform_readOne_73 o n sh Rf I22 L23 post x1 x2 d hok hw hw1 hd0 H)
  · have H := H.2 c5
    refine ev_iload_n dReform_readOne_9 rfl ?_
    refine ev_bipush (6) dReform_readOne_10 (by decide) ?_
    refine ev_icmp_le 21 dReform_readOne_12 (by decide) (fun c25 => ?_) (fun c25 => ?_)
    · have H := H.1 c25
      refine ev_aload_n dReform_readOne_21 rfl ?_
      refine ev_callV [] [] (B' := (0, 0)) (B'' := (0, 0)) hok mmTape_step mk_Reform_77 (ci := 8) rfl rfl (woTape hw1) rfl (Nat.le_of_ble_eq_true rfl) rfl (Nat.le_of_ble_eq_true rfl) dReform_readOne_22 rfl (by omega) H (fun v τ p26 => ?_)
      obtain ⟨I28, L29, rfl, rfl, H⟩ := p26
      refine ev_aload_n dReform_readOne_25 rfl ?_
      refine ev_aload_n dReform_readOne_26 rfl ?_
      refine ev_iload_n dReform_readOne_27 rfl ?_
      refine ev_iconst (1) dReform_readOne_28 (by decide) ?_
      refine ev_iadd dReform_readOne_29 ?_
      refine ev_callV [.ref x1, .int ((x2 + 1))] [] (B' := (0, 0)) (B'' := (0, 0)) hok mmReform_readOne mk_Reform_104 (ci := 6) rfl rfl (woReform hw) rfl (Nat.le_of_ble_eq_true rfl) rfl (Nat.le_of_ble_eq_true rfl) dReform_readOne_30 rfl (Nat.le_refl _) H (fun v τ p30 => ?_)
      obtain ⟨I32, L33, rfl, rfl, H⟩ := p30
      refine ev_aload_n dReform_readOne_33 rfl ?_
      refine ev_bipush (22) dReform_readOne_34 (by decide) ?_
      refine ev_callV [.int 22] [] (B' := (0, 0)) (B'' := (0, 0)) hok mmReform_emit mk_Reform_101 (ci := 6) rfl rfl (woReform hw) rfl (Nat.le_of_ble_eq_true rfl) rfl (Nat.le_of_ble_eq_true rfl) dReform_readOne_36 rfl (by omega) H (fun v τ p34 => ?_)
      obtain ⟨I36, L37, rfl, rfl, H⟩ := p34
      exact ev_vret rfl dReform_readOne_39 H
    · have H := H.2 c25
      refine ev_aload_n dReform_readOne_15 rfl ?_
      refine ev_iconst (2) dReform_readOne_16 (by decide) ?_
      refine ev_callV [.int 2] [] (B' := (0, 0)) (B'' := (0, 0)) hok mmTape_refuse mk_Reform_73 (ci := 8) rfl rfl (woTape hw1) rfl (Nat.le_of_ble_eq_true rfl) rfl (Nat.le_of_ble_eq_true rfl) dReform_readOne_17 rfl (by omega) H (fun v τ p38 => ?_)
      obtain ⟨I40, L41, rfl, rfl, H⟩ := p38
      exact ev_vret rfl dReform_readOne_20 H
def fReform_readSum_33 (D : va_G) (cA : FieldType → ClassId) (b : Nat) (E : State → Prop) (o : Nat) (n : Nat) (sh : Nat → qC) (Rf : Nat → Nat → Option Nat) (I : Nat → Nat → Int32) (L : Nat → Nat → Int64) (post : Option Value → qS → Prop) (x1 : Nat) (x2 : Int32) (x3 : Int32) (d : Nat) : Prop :=
  Ev (qGG D cA b E) mTape_value 0 (0, 0) 0 (lv_args 0 [.ref x1]) [] (n, sh, Rf, I, L) (fun v τ => ∃ (r2 : Int32) (I3 : Nat → Nat → Int32) (L4 : Nat → Nat → Int64), v = some (.int r2) ∧ τ = (n, sh, Rf, I3, L4) ∧ Ev (qGG D cA b E) mTape_step 0 (0, 0) 0 (lv_args 0 [.ref x1]) [] (n, sh, Rf, I3, L4) (fun v τ => ∃ (I7 : Nat → Nat → Int32) (L8 : Nat → Nat → Int64), v = none ∧ τ = (n, sh, Rf, I7, L8) ∧ Ev (qGG D cA b E) mReform_readTerm d (0, 0) 0 (lv_args 0 [.ref o, .ref x1, .int x2]) [] (n, sh, Rf, I7, L8) (fun v τ => ∃ (I11 : Nat → Nat → Int32) (L12 : Nat → Nat → Int64), v = none ∧ τ = (n, sh, Rf, I11, L12) ∧ Ev (qGG D cA b E) mReform_emit 0 (0, 0) 0 (lv_args 0 [.ref o, .int r2]) [] (n, sh, Rf, I11, L12) (fun v τ => ∃ (I15 : Nat → Nat → Int32) (L16 : Nat → Nat → Int64), v = none ∧ τ = (n, sh, Rf, I15, L16) ∧ Ev (qGG D cA b E) mReform_readSum (d + 1) (0, 0) 8 [(0, .ref o), (1, .ref x1), (2, .int x2), (3, .int ((x3 + Int32.ofInt 1)))] [] (n, sh, Rf, I15, L16) post))))
set_option maxHeartbeats 4000000 in
set_option maxRecDepth 20000 in
theorem sReform_readSum_33 {D : va_G} {cA : FieldType → ClassId} {b : Nat} {E : State → Prop} (o : Nat) (n : Nat) (sh : Nat → qC) (Rf : Nat → Nat → Option Nat) (I : Nat → Nat → Int32) (L : Nat → Nat → Int64) (post : Option Value → qS → Prop) (x1 : Nat) (x2 : Int32) (x3 : Int32) (d : Nat) (hok : q_ok (qGG D cA b E)) (hw : WfReform (qGG D cA b E) n sh Rf o) (hw1 : WfTape (qGG D cA b E) n sh Rf x1) (hd0 : 5 ≤ d) (H : fReform_readSum_33 D cA b E o n sh Rf I L post x1 x2 x3 d) : Ev (qGG D cA b E) mReform_readSum (d + 1) (0, 0) 33 [(0, .ref o), (1, .ref x1), (2, .int x2), (3, .int x3)] [] (n, sh, Rf, I, L) post := by
  unfold fReform_readSum_33 at H
  refine ev_aload_n dReform_readSum_33 rfl ?_
  refine ev_callV [] [] (B' := (0, 0)) (B'' := (0, 0)) hok mmTape_value mk_Reform_91 (ci := 8) rfl rfl (woTape hw1) rfl (Nat.le_of_ble_eq_true rfl) rfl (Nat.le_of_ble_eq_true rfl) dReform_readSum_34 rfl (by omega) H (fun v τ p1 => ?_)
  obtain ⟨r2, I3, L4, rfl, rfl, H⟩ := p1
  refine ev_istore dReform_readSum_37 (by decide) ?_
  refine ev_aload_n dReform_readSum_39 rfl ?_
  refine ev_callV [] [] (B' := (0, 0)) (B'' := (0, 0)) hok mmTape_step mk_Reform_77 (ci := 8) rfl rfl (woTape hw1) rfl (Nat.le_of_ble_eq_true rfl) rfl (Nat.le_of_ble_eq_true rfl) dReform_readSum_40 rfl (by omega) H (fun v τ p5 => ?_)
  obtain ⟨I7, L8, rfl, rfl, H⟩ := p5
  refine ev_aload_n dReform_readSum_43 rfl ?_
  refine ev_aload_n dReform_readSum_44 rfl ?_
  refine ev_iload_n dReform_readSum_45 rfl ?_
  refine ev_callV [.ref x1, .int x2] [] (B' := (0, 0)) (B'' := (0, 0)) hok mmReform_readTerm mk_Reform_113 (ci := 6) rfl rfl (woReform hw) rfl (Nat.le_of_ble_eq_true rfl) rfl (Nat.le_of_ble_eq_true rfl) dReform_readSum_46 rfl (Nat.le_refl _) H (fun v τ p9 => ?_)
  obtain ⟨I11, L12, rfl, rfl, H⟩ := p9
  refine ev_aload_n dReform_readSum_49 rfl ?_
  refine ev_iload dReform_readSum_50 rfl ?_
  refine ev_callV [.int r2] [] (B' := (0, 0)) (B'' := (0, 0)) hok mmReform_emit mk_Reform_101 (ci := 6) rfl rfl (woReform hw) rfl (Nat.le_of_ble_eq_true rfl) rfl (Nat.le_of_ble_eq_true rfl) dReform_readSum_52 rfl (by omega) H (fun v τ p13 => ?_)
  obtain ⟨I15, L16, rfl, rfl, H⟩ := p13
  refine ev_iinc dReform_readSum_55 rfl (by decide) ?_
  refine ev_goto 8 dReform_readSum_58 (by decide) ?_
  exact ev_sub [(0, .ref o), (1, .ref x1), (2, .int x2), (3, .int ((x3 + Int32.ofInt 1)))] rfl H
def fReform_readSum_8 (D : va_G) (cA : FieldType → ClassId) (b : Nat) (E : State → Prop) (o : Nat) (n : Nat) (sh : Nat → qC) (Rf : Nat → Nat → Option Nat) (I : Nat → Nat → Int32) (L : Nat → Nat → Int64) (post : Option Value → qS → Prop) (x1 : Nat) (x2 : Int32) (x3 : Int32) (d : Nat) : Prop :=
  ((700 ≤ x3 → post none (n, sh, Rf, I, L)) ∧ (¬ 700 ≤ x3 → Ev (qGG D cA b E) mTape_isSign 0 (0, 0) 0 (lv_args 0 [.ref x1, .int 43]) [] (n, sh, Rf, I, L) (fun v τ => ∃ (r3 : Int32) (I4 : Nat → Nat → Int32) (L5 : Nat → Nat → Int64), v = some (.int r3) ∧ τ = (n, sh, Rf, I4, L5) ∧ ((¬ r3 = 0 → fReform_readSum_33 D cA b E o n sh Rf I4 L5 post x1 x2 x3 d) ∧ (r3 = 0 → Ev (qGG D cA b E) mTape_isSign 0 (0, 0) 0 (lv_args 0 [.ref x1, .int 45]) [] (n, sh, Rf, I4, L5) (fun v τ => ∃ (r8 : Int32) (I9 : Nat → Nat → Int32) (L10 : Nat → Nat → Int64), v = some (.int r8) ∧ τ = (n, sh, Rf, I9, L10) ∧ ((r8 = 0 → post none (n, sh, Rf, I9, L10)) ∧ (¬ r8 = 0 → fReform_readSum_33 D cA b E o n sh Rf I9 L10 post x1 x2 x3 d))))))))
set_option maxHeartbeats 4000000 in
set_option maxRecDepth 20000 in
theorem sReform_readSum_8 {D : va_G} {cA : FieldType → ClassId} {b : Nat} {E : State → Prop} (o : Nat) (n : Nat) (sh : Nat → qC) (Rf : Nat → Nat → Option Nat) (I : Nat → Nat → Int32) (L : Nat → Nat → Int64) (post : Option Value → qS → Prop) (x1 : Nat) (x2 : Int32) (x3 : Int32) (d : Nat) (hok : q_ok (qGG D cA b E)) (hw : WfReform (qGG D cA b E) n sh Rf o) (hw1 : WfTape (qGG D cA b E) n sh Rf x1) (hd0 : 5 ≤ d) (H : fReform_readSum_8 D cA b E o n sh Rf I L post x1 x2 x3 d) : Ev (qGG D cA b E) mReform_readSum (d + 1) (0, 0) 8 [(0, .ref o), (1, .ref x1), (2, .int x2), (3, .int x3)] [] (n, sh, Rf, I, L) post := by
  unfold fReform_readSum_8 at H
  refine ev_iload_n dReform_readSum_8 rfl ?_
  refine ev_sipush (700) dReform_readSum_9 (by decide) ?_
  refine ev_icmp_ge 61 dReform_readSum_12 (by decide) (fun c1 => ?_) (fun c1 => ?_)
  · have H := H.1 c1
    exact ev_vret rfl dReform_readSum_61 H
  · have H := H.2 c1
    refine ev_aload_n dReform_readSum_15 rfl ?_
    refine ev_bipush (43) dReform_readSum_16 (by decide) ?_
    refine ev_callV [.int 43] [] (B' := (0, 0)) (B'' := (0, 0)) hok mmTape_isSign mk_Reform_110 (ci := 8) rfl rfl (woTape hw1) rfl (Nat.le_of_ble_eq_true rfl) rfl (Nat.le_of_ble_eq_true rfl) dReform_readSum_18 rfl (by omega) H (fun v τ p2 => ?_)
    obtain ⟨r3, I4, L5, rfl, rfl, H⟩ := p2
    refine ev_if_ne 33 dReform_readSum_21 (by decide) (fun c6 => ?_) (fun c6 => ?_)
    · have H := H.1 c6
      exact ev_sub [(0, .ref o), (1, .ref x1), (2, .int x2), (3, .int x3)] rfl (sReform_readSum_33 o n sh Rf I4 L5 post x1 x2 x3 d hok hw hw1 hd0 H)
    · have H := H.2 c6
      refine ev_aload_n dReform_readSum_24 rfl ?_
      refine ev_bipush (45) dReform_readSum_25 (by decide) ?_
      refine ev_callV [.int 45] [] (B' := (0, 0)) (B'' := (0, 0)) hok mmTape_isSign mk_Reform_110 (ci := 8) rfl rfl (woTape hw1) rfl (Nat.le_of_ble_eq_true rfl) rfl (Nat.le_of_ble_eq_true rfl) dReform_readSum_27 rfl (by omega) H (fun v τ p7 => ?_)
      obtain ⟨r8, I9, L10, rfl, rfl, H⟩ := p7
      refine ev_if_eq 61 dReform_readSum_30 (by decide) (fun c11 => ?_) (fun c11 => ?_)
      · have H := H.1 c11
        exact ev_vret rfl dReform_readSum_61 H
      · have H := H.2 c11
        exact ev_sub [(0, .ref o), (1, .ref x1), (2, .int x2), (3, .int x3)] rfl (sReform_readSum_33 o n sh Rf I9 L10 post x1 x2 x3 d hok hw hw1 hd0 H)
def fReform_readSum_0 (D : va_G) (cA : FieldType → ClassId) (b : Nat) (E : State → Prop) (o : Nat) (n : Nat) (sh : Nat → qC) (Rf : Nat → Nat → Option Nat) (I : Nat → Nat → Int32) (L : Nat → Nat → Int64) (post : Option Value → qS → Prop) (x1 : Nat) (x2 : Int32) (d : Nat) : Prop :=
  Ev (qGG D cA b E) mReform_readTerm d (0, 0) 0 (lv_args 0 [.ref o, .ref x1, .int x2]) [] (n, sh, Rf, I, L) (fun v τ => ∃ (I3 : Nat → Nat → Int32) (L4 : Nat → Nat → Int64), v = none ∧ τ = (n, sh, Rf, I3, L4) ∧ Ev (qGG D cA b E) mReform_readSum (d + 1) (0, 0) 8 [(0, .ref o), (1, .ref x1), (2, .int x2), (3, .int 0)] [] (n, sh, Rf, I3, L4) post)
set_option maxHeartbeats 4000000 in
set_option maxRecDepth 20000 in
theorem sReform_readSum_0 {D : va_G} {cA : FieldType → ClassId} {b : Nat} {E : State → Prop} (o : Nat) (n : Nat) (sh : Nat → qC) (Rf : Nat → Nat → Option Nat) (I : Nat → Nat → Int32) (L : Nat → Nat → Int64) (post : Option Value → qS → Prop) (x1 : Nat) (x2 : Int32) (d : Nat) (hok : q_ok (qGG D cA b E)) (hw : WfReform (qGG D cA b E) n sh Rf o) (hw1 : WfTape (qGG D cA b E) n sh Rf x1) (hd0 : 5 ≤ d) (H : fReform_readSum_0 D cA b E o n sh Rf I L post x1 x2 d) : Ev (qGG D cA b E) mReform_readSum (d + 1) (0, 0) 0 [(0, .ref o), (1, .ref x1), (2, .int x2)] [] (n, sh, Rf, I, L) post := by
  unfold fReform_readSum_0 at H
  refine ev_aload_n dReform_readSum_0 rfl ?_
  refine ev_aload_n dReform_readSum_1 rfl ?_
  refine ev_iload_n dReform_readSum_2 rfl ?_
  refine ev_callV [.ref x1, .int x2] [] (B' := (0, 0)) (B'' := (0, 0)) hok mmReform_readTerm mk_Reform_113 (ci := 6) rfl rfl (woReform hw) rfl (Nat.le_of_ble_eq_true rfl) rfl (Nat.le_of_ble_eq_true rfl) dReform_readSum_3 rfl (Nat.le_refl _) H (fun v τ p1 => ?_)
  obtain ⟨I3, L4, rfl, rfl, H⟩ := p1
  refine ev_iconst (0) dReform_readSum_6 (by decide) ?_
  refine ev_istore_n dReform_readSum_7 (by decide) ?_
  exact ev_sub [(0, .ref o), (1, .ref x1), (2, .int x2), (3, .int 0)] rfl H
def fReform_readTerm_33 (D : va_G) (cA : FieldType → ClassId) (b : Nat) (E : State → Prop) (o : Nat) (n : Nat) (sh : Nat → qC) (Rf : Nat → Nat → Option Nat) (I : Nat → Nat → Int32) (L : Nat → Nat → Int64) (post : Option Value → qS → Prop) (x1 : Nat) (x2 : Int32) (x3 : Int32) (d : Nat) : Prop :=
  Ev (qGG D cA b E) mTape_value 0 (0, 0) 0 (lv_args 0 [.ref x1]) [] (n, sh, Rf, I, L) (fun v τ => ∃ (r2 : Int32) (I3 : Nat → Nat → Int32) (L4 : Nat → Nat → Int64), v = some (.int r2) ∧ τ = (n, sh, Rf, I3, L4) ∧ Ev (qGG D cA b E) mTape_step 0 (0, 0) 0 (lv_args 0 [.ref x1]) [] (n, sh, Rf, I3, L4) (fun v τ => ∃ (I7 : Nat → Nat → Int32) (L8 : Nat → Nat → Int64), v = none ∧ τ = (n, sh, Rf, I7, L8) ∧ Ev (qGG D cA b E) mReform_readUnit d (0, 0) 0 (lv_args 0 [.ref o, .ref x1, .int x2]) [] (n, sh, Rf, I7, L8) (fun v τ => ∃ (I11 : Nat → Nat → Int32) (L12 : Nat → Nat → Int64), v = none ∧ τ = (n, sh, Rf, I11, L12) ∧ Ev (qGG D cA b E) mReform_emit 0 (0, 0) 0 (lv_args 0 [.ref o, .int r2]) [] (n, sh, Rf, I11, L12) (fun v τ => ∃ (I15 : Nat → Nat → Int32) (L16 : Nat → Nat → Int64), v = none ∧ τ = (n, sh, Rf, I15, L16) ∧ Ev (qGG D cA b E) mReform_readTerm (d + 1) (0, 0) 8 [(0, .ref o), (1, .ref x1), (2, .int x2), (3, .int ((x3 + Int32.ofInt 1)))] [] (n, sh, Rf, I15, L16) post))))
set_option maxHeartbeats 4000000 in
set_option maxRecDepth 20000 in
theorem sReform_readTerm_33 {D : va_G} {cA : FieldType → ClassId} {b : Nat} {E : State → Prop} (o : Nat) (n : Nat) (sh : Nat → qC) (Rf : Nat → Nat → Option Nat) (I : Nat → Nat → Int32) (L : Nat → Nat → Int64) (post : Option Value → qS → Prop) (x1 : Nat) (x2 : Int32) (x3 : Int32) (d : Nat) (hok : q_ok (qGG D cA b E)) (hw : WfReform (qGG D cA b E) n sh Rf o) (hw1 : WfTape (qGG D cA b E) n sh Rf x1) (hd0 : 5 ≤ d) (H : fReform_readTerm_33 D cA b E o n sh Rf I L post x1 x2 x3 d) : Ev (qGG D cA b E) mReform_readTerm (d + 1) (0, 0) 33 [(0, .ref o), (1, .ref x1), (2, .int x2), (3, .int x3)] [] (n, sh, Rf, I, L) post := by
  unfold fReform_readTerm_33 at H
  refine ev_aload_n dReform_readTerm_33 rfl ?_
  refine ev_callV [] [] (B' := (0, 0)) (B'' := (0, 0)) hok mmTape_value mk_Reform_91 (ci := 8) rfl rfl (woTape hw1) rfl (Nat.le_of_ble_eq_true rfl) rfl (Nat.le_of_ble_eq_true rfl) dReform_readTerm_34 rfl (by omega) H (fun v τ p1 => ?_)
  obtain ⟨r2, I3, L4, rfl, rfl, H⟩ := p1
  refine ev_istore dReform_readTerm_37 (by decide) ?_
  refine ev_aload_n dReform_readTerm_39 rfl ?_
  refine ev_callV [] [] (B' := (0, 0)) (B'' := (0, 0)) hok mmTape_step mk_Reform_77 (ci := 8) rfl rfl (woTape hw1) rfl (Nat.le_of_ble_eq_true rfl) rfl (Nat.le_of_ble_eq_true rfl) dReform_readTerm_40 rfl (by omega) H (fun v τ p5 => ?_)
  obtain ⟨I7, L8, rfl, rfl, H⟩ := p5
  refine ev_aload_n dReform_readTerm_43 rfl ?_
  refine ev_aload_n dReform_readTerm_44 rfl ?_
  refine ev_iload_n dReform_readTerm_45 rfl ?_
  refine ev_callV [.ref x1, .int x2] [] (B' := (0, 0)) (B'' := (0, 0)) hok mmReform_readUnit mk_Reform_116 (ci := 6) rfl rfl (woReform hw) rfl (Nat.le_of_ble_eq_true rfl) rfl (Nat.le_of_ble_eq_true rfl) dReform_readTerm_46 rfl (Nat.le_refl _) H (fun v τ p9 => ?_)
  obtain ⟨I11, L12, rfl, rfl, H⟩ := p9
  refine ev_aload_n dReform_readTerm_49 rfl ?_
  refine ev_iload dReform_readTerm_50 rfl ?_
  refine ev_callV [.int r2] [] (B' := (0, 0)) (B'' := (0, 0)) hok mmReform_emit mk_Reform_101 (ci := 6) rfl rfl (woReform hw) rfl (Nat.le_of_ble_eq_true rfl) rfl (Nat.le_of_ble_eq_true rfl) dReform_readTerm_52 rfl (by omega) H (fun v τ p13 => ?_)
  obtain ⟨I15, L16, rfl, rfl, H⟩ := p13
  refine ev_iinc dReform_readTerm_55 rfl (by decide) ?_
  refine ev_goto 8 dReform_readTerm_58 (by decide) ?_
  exact ev_sub [(0, .ref o), (1, .ref x1), (2, .int x2), (3, .int ((x3 + Int32.ofInt 1)))] rfl H
def fReform_readTerm_8 (D : va_G) (cA : FieldType → ClassId) (b : Nat) (E : State → Prop) (o : Nat) (n : Nat) (sh : Nat → qC) (Rf : Nat → Nat → Option Nat) (I : Nat → Nat → Int32) (L : Nat → Nat → Int64) (post : Option Value → qS → Prop) (x1 : Nat) (x2 : Int32) (x3 : Int32) (d : Nat) : Prop :=
  ((700 ≤ x3 → post none (n, sh, Rf, I, L)) ∧ (¬ 700 ≤ x3 → Ev (qGG D cA b E) mTape_isSign 0 (0, 0) 0 (lv_args 0 [.ref x1, .int 42]) [] (n, sh, Rf, I, L) (fun v τ => ∃ (r3 : Int32) (I4 : Nat → Nat → Int32) (L5 : Nat → Nat → Int64), v = some (.int r3) ∧ τ = (n, sh, Rf, I4, L5) ∧ ((¬ r3 = 0 → fReform_readTerm_33 D cA b E o n sh Rf I4 L5 post x1 x2 x3 d) ∧ (r3 = 0 → Ev (qGG D cA b E) mTape_isSign 0 (0, 0) 0 (lv_args 0 [.ref x1, .int 47]) [] (n, sh, Rf, I4, L5) (fun v τ => ∃ (r8 : Int32) (I9 : Nat → Nat → Int32) (L10 : Nat → Nat → Int64), v = some (.int r8) ∧ τ = (n, sh, Rf, I9, L10) ∧ ((r8 = 0 → post none (n, sh, Rf, I9, L10)) ∧ (¬ r8 = 0 → fReform_readTerm_33 D cA b E o n sh Rf I9 L10 post x1 x2 x3 d))))))))
set_option maxHeartbeats 4000000 in
set_option maxRecDepth 20000 in
theorem sReform_readTerm_8 {D : va_G} {cA : FieldType → ClassId} {b : Nat} {E : State → Prop} (o : Nat) (n : Nat) (sh : Nat → qC) (Rf : Nat → Nat → Option Nat) (I : Nat → Nat → Int32) (L : Nat → Nat → Int64) (post : Option Value → qS → Prop) (x1 : Nat) (x2 : Int32) (x3 : Int32) (d : Nat) (hok : q_ok (qGG D cA b E)) (hw : WfReform (qGG D cA b E) n sh Rf o) (hw1 : WfTape (qGG D cA b E) n sh Rf x1) (hd0 : 5 ≤ d) (H : fReform_readTerm_8 D cA b E o n sh Rf I L post x1 x2 x3 d) : Ev (qGG D cA b E) mReform_readTerm (d + 1) (0, 0) 8 [(0, .ref o), (1, .ref x1), (2, .int x2), (3, .int x3)] [] (n, sh, Rf, I, L) post := by
  unfold fReform_readTerm_8 at H
  refine ev_iload_n dReform_readTerm_8 rfl ?_
  refine ev_sipush (700) dReform_readTerm_9 (by decide) ?_
  refine ev_icmp_ge 61 dReform_readTerm_12 (by decide) (fun c1 => ?_) (fun c1 => ?_)
  · have H := H.1 c1
    exact ev_vret rfl dReform_readTerm_61 H
  · have H := H.2 c1
    refine ev_aload_n dReform_readTerm_15 rfl ?_
    refine ev_bipush (42) dReform_readTerm_16 (by decide) ?_
    refine ev_callV [.int 42] [] (B' := (0, 0)) (B'' := (0, 0)) hok mmTape_isSign mk_Reform_110 (ci := 8) rfl rfl (woTape hw1) rfl (Nat.le_of_ble_eq_true rfl) rfl (Nat.le_of_ble_eq_true rfl) dReform_readTerm_18 rfl (by omega) H (fun v τ p2 => ?_)
    obtain ⟨r3, I4, L5, rfl, rfl, H⟩ := p2
    refine ev_if_ne 33 dReform_readTerm_21 (by decide) (fun c6 => ?_) (fun c6 => ?_)
    · have H := H.1 c6
      exact ev_sub [(0, .ref o), (1, .ref x1), (2, .int x2), (3, .int x3)] rfl (sReform_readTerm_33 o n sh Rf I4 L5 post x1 x2 x3 d hok hw hw1 hd0 H)
    · have H := H.2 c6
      refine ev_aload_n dReform_readTerm_24 rfl ?_
      refine ev_bipush (47) dReform_readTerm_25 (by decide) ?_
      refine ev_callV [.int 47] [] (B' := (0, 0)) (B'' := (0, 0)) hok mmTape_isSign mk_Reform_110 (ci := 8) rfl rfl (woTape hw1) rfl (Nat.le_of_ble_eq_true rfl) rfl (Nat.le_of_ble_eq_true rfl) dReform_readTerm_27 rfl (by omega) H (fun v τ p7 => ?_)
      obtain ⟨r8, I9, L10, rfl, rfl, H⟩ := p7
      refine ev_if_eq 61 dReform_readTerm_30 (by decide) (fun c11 => ?_) (fun c11 => ?_)
      · have H := H.1 c11
        exact ev_vret rfl dReform_readTerm_61 H
      · have H := H.2 c11
        exact ev_sub [(0, .ref o), (1, .ref x1), (2, .int x2), (3, .int x3)] rfl (sReform_readTerm_33 o n sh Rf I9 L10 post x1 x2 x3 d hok hw hw1 hd0 H)
def fReform_readTerm_0 (D : va_G) (cA : FieldType → ClassId) (b : Nat) (E : State → Prop) (o : Nat) (n : Nat) (sh : Nat → qC) (Rf : Nat → Nat → Option Nat) (I : Nat → Nat → Int32) (L : Nat → Nat → Int64) (post : Option Value → qS → Prop) (x1 : Nat) (x2 : Int32) (d : Nat) : Prop :=
  Ev (qGG D cA b E) mReform_readUnit d (0, 0) 0 (lv_args 0 [.ref o, .ref x1, .int x2]) [] (n, sh, Rf, I, L) (fun v τ => ∃ (I3 : Nat → Nat → Int32) (L4 : Nat → Nat → Int64), v = none ∧ τ = (n, sh, Rf, I3, L4) ∧ Ev (qGG D cA b E) mReform_readTerm (d + 1) (0, 0) 8 [(0, .ref o), (1, .ref x1), (2, .int x2), (3, .int 0)] [] (n, sh, Rf, I3, L4) post)
set_option maxHeartbeats 4000000 in
set_option maxRecDepth 20000 in
theorem sReform_readTerm_0 {D : va_G} {cA : FieldType → ClassId} {b : Nat} {E : State → Prop} (o : Nat) (n : Nat) (sh : Nat → qC) (Rf : Nat → Nat → Option Nat) (I : Nat → Nat → Int32) (L : Nat → Nat → Int64) (post : Option Value → qS → Prop) (x1 : Nat) (x2 : Int32) (d : Nat) (hok : q_ok (qGG D cA b E)) (hw : WfReform (qGG D cA b E) n sh Rf o) (hw1 : WfTape (qGG D cA b E) n sh Rf x1) (hd0 : 5 ≤ d) (H : fReform_readTerm_0 D cA b E o n sh Rf I L post x1 x2 d) : Ev (qGG D cA b E) mReform_readTerm (d + 1) (0, 0) 0 [(0, .ref o), (1, .ref x1), (2, .int x2)] [] (n, sh, Rf, I, L) post := by
  unfold fReform_readTerm_0 at H
  refine ev_aload_n dReform_readTerm_0 rfl ?_
  refine ev_aload_n dReform_readTerm_1 rfl ?_
  refine ev_iload_n dReform_readTerm_2 rfl ?_
  refine ev_callV [.ref x1, .int x2] [] (B' := (0, 0)) (B'' := (0, 0)) hok mmReform_readUnit mk_Reform_116 (ci := 6) rfl rfl (woReform hw) rfl (Nat.le_of_ble_eq_true rfl) rfl (Nat.le_of_ble_eq_true rfl) dReform_readTerm_3 rfl (Nat.le_refl _) H (fun v τ p1 => ?_)
  obtain ⟨I3, L4, rfl, rfl, H⟩ := p1
  refine ev_iconst (0) dReform_readTerm_6 (by decide) ?_
  refine ev_istore_n dReform_readTerm_7 (by decide) ?_
  exact ev_sub [(0, .ref o), (1, .ref x1), (2, .int x2), (3, .int 0)] rfl H
def fReform_readUnit_95 (D : va_G) (cA : FieldType → ClassId) (b : Nat) (E : State → Prop) (o : Nat) (n : Nat) (sh : Nat → qC) (Rf : Nat → Nat → Option Nat) (I : Nat → Nat → Int32) (L : Nat → Nat → Int64) (post : Option Value → qS → Prop) (x1 : Nat) (x2 : Int32) (x3 : Int32) (x4 : Int32) (d : Nat) : Prop :=
  ∀ I1 : Nat → Nat → Int32, q_u I o 7 ((I o 7) + 1) = I1 → ((x3 = 0 → ((x4 = 0 → Ev (qGG D cA b E) mTape_value 0 (0, 0) 0 (lv_args 0 [.ref x1]) [] (n, sh, Rf, I1, L) (fun v τ => ∃ (r5 : Int32) (I6 : Nat → Nat → Int32) (L7 : Nat → Nat → Int64), v = some (.int r5) ∧ τ = (n, sh, Rf, I6, L7) ∧ Ev (qGG D cA b E) mReform_emit 0 (0, 0) 0 (lv_args 0 [.ref o, .int ((64 + r5))]) [] (n, sh, Rf, I6, L7) (fun v τ => ∃ (I10 : Nat → Nat → Int32) (L11 : Nat → Nat → Int64), v = none ∧ τ = (n, sh, Rf, I10, L11) ∧ Ev (qGG D cA b E) mTape_step 0 (0, 0) 0 (lv_args 0 [.ref x1]) [] (n, sh, Rf, I10, L11) (fun v τ => ∃ (I14 : Nat → Nat → Int32) (L15 : Nat → Nat → Int64), v = none ∧ τ = (n, sh, Rf, I14, L15) ∧ post none (n, sh, Rf, I14, L15))))) ∧ (¬ x4 = 0 → Ev (qGG D cA b E) mTape_value 0 (0, 0) 0 (lv_args 0 [.ref x1]) [] (n, sh, Rf, I1, L) (fun v τ => ∃ (r17 : Int32) (I18 : Nat → Nat → Int32) (L19 : Nat → Nat → Int64), v = some (.int r17) ∧ τ = (n, sh, Rf, I18, L19) ∧ Ev (qGG D cA b E) mReform_emit 0 (0, 0) 0 (lv_args 0 [.ref o, .int r17]) [] (n, sh, Rf, I18, L19) (fun v τ => ∃ (I22 : Nat → Nat → Int32) (L23 : Nat → Nat → Int64), v = none ∧ τ = (n, sh, Rf, I22, L23) ∧ Ev (qGG D cA b E) mTape_step 0 (0, 0) 0 (lv_args 0 [.ref x1]) [] (n, sh, Rf, I22, L23) (fun v τ => ∃ (I26 : Nat → Nat → Int32) (L27 : Nat → Nat → Int64), v = none ∧ τ = (n, sh, Rf, I26, L27) ∧ post none (n, sh, Rf, I26, L27))))))) ∧ (¬ x3 = 0 → Ev (qGG D cA b E) mTape_step 0 (0, 0) 0 (lv_args 0 [.ref x1]) [] (n, sh, Rf, I1, L) (fun v τ => ∃ (I30 : Nat → Nat → Int32) (L31 : Nat → Nat → Int64), v = none ∧ τ = (n, sh, Rf, I30, L31) ∧ Ev (qGG D cA b E) mReform_readEither d (0, 0) 0 (lv_args 0 [.ref o, .ref x1, .int ((x2 + 1))]) [] (n, sh, Rf, I30, L31) (fun v τ => ∃ (I34 : Nat → Nat → Int32) (L35 : Nat → Nat → Int64), v = none ∧ τ = (n, sh, Rf, I34, L35) ∧ Ev (qGG D cA b E) mTape_isSign 0 (0, 0) 0 (lv_args 0 [.ref x1, .int 41]) [] (n, sh, Rf, I34, L35) (fun v τ => ∃ (r37 : Int32) (I38 : Nat → Nat → Int32) (L39 : Nat → Nat → Int64), v = some (.int r37) ∧ τ = (n, sh, Rf, I38, L39) ∧ Ev (qGG D cA b E) mTape_passIf 1 (0, 0) 0 (lv_args 0 [.ref x1, .int r37]) [] (n, sh, Rf, I38, L39) (fun v τ => ∃ (I42 : Nat → Nat → Int32) (L43 : Nat → Nat → Int64), v = none ∧ τ = (n, sh, Rf, I42, L43) ∧ post none (n, sh, Rf, I42, L43)))))))
set_option maxHeartbeats 4000000 in
set_option maxRecDepth 20000 in
theorem sReform_readUnit_95 {D : va_G} {cA : FieldType → ClassId} {b : Nat} {E : State → Prop} (o : Nat) (n : Nat) (sh : Nat → qC) (Rf : Nat → Nat → Option Nat) (I : Nat → Nat → Int32) (L : Nat → Nat → Int64) (post : Option Value → qS → Prop) (x1 : Nat) (x2 : Int32) (x3 : Int32) (x4 : Int32) (d : Nat) (hok : q_ok (qGG D cA b E)) (hw : WfReform (qGG D cA b E) n sh Rf o) (hw1 : WfTape (qGG D cA b E) n sh Rf x1) (hd0 : 5 ≤ d) (H : fReform_readUnit_95 D cA b E o n sh Rf I L post x1 x2 x3 x4 d) : Ev (qGG D cA b E) mReform_readUnit (d + 1) (0, 0) 95 [(0, .ref o), (1, .ref x1), (2, .int x2), (3, .int x3), (4, .int x4)] [] (n, sh, Rf, I, L) post := by
  unfold fReform_readUnit_95 at H
  refine ev_aload_n dReform_readUnit_95 rfl ?_
  refine ev_dup dReform_readUnit_96 rfl ?_
  refine ev_getI hok fk_Reform_34 (woReform hw) (fun _ _ _ => rfl) dReform_readUnit_97 ?_
  refine ev_iconst (1) dReform_readUnit_100 (by decide) ?_
  refine ev_iadd dReform_readUnit_101 ?_
  refine ev_putI hok fk_Reform_34 (woReform hw) (fun _ _ _ => rfl) rfl rfl dReform_readUnit_102 ?_
  generalize eI1 : q_u I o 7 ((I o 7) + 1) = I1
  have H := H I1 eI1
  refine ev_iload_n dReform_readUnit_105 rfl ?_
  refine ev_if_eq 132 dReform_readUnit_106 (by decide) (fun c2 => ?_) (fun c2 => ?_)
  · have H := H.1 c2
    refine ev_aload_n dReform_readUnit_132 rfl ?_
    refine ev_iload dReform_readUnit_133 rfl ?_
    refine ev_if_eq 145 dReform_readUnit_135 (by decide) (fun c3 => ?_) (fun c3 => ?_)
    · have H := H.1 c3
      refine ev_bipush (64) dReform_readUnit_145 (by decide) ?_
      refine ev_aload_n dReform_readUnit_147 rfl ?_
      refine ev_callV [] [.int 64, .ref o] (B' := (0, 0)) (B'' := (0, 0)) hok mmTape_value mk_Reform_91 (ci := 8) rfl rfl (woTape hw1) rfl (Nat.le_of_ble_eq_true rfl) rfl (Nat.le_of_ble_eq_true rfl) dReform_readUnit_148 rfl (by omega) H (fun v τ p4 => ?_)
      obtain ⟨r5, I6, L7, rfl, rfl, H⟩ := p4
      refine ev_iadd dReform_readUnit_151 ?_
      refine ev_callV [.int ((64 + r5))] [] (B' := (0, 0)) (B'' := (0, 0)) hok mmReform_emit mk_Reform_101 (ci := 6) rfl rfl (woReform hw) rfl (Nat.le_of_ble_eq_true rfl) rfl (Nat.le_of_ble_eq_true rfl) dReform_readUnit_152 rfl (by omega) H (fun v τ p8 => ?_)
      obtain ⟨I10, L11, rfl, rfl, H⟩ := p8
      refine ev_aload_n dReform_readUnit_155 rfl ?_
      refine ev_callV [] [] (B' := (0, 0)) (B'' := (0, 0)) hok mmTape_step mk_Reform_77 (ci := 8) rfl rfl (woTape hw1) rfl (Nat.le_of_ble_eq_true rfl) rfl (Nat.le_of_ble_eq_true rfl) dReform_readUnit_156 rfl (by omega) H (fun v τ p12 => ?_)
      obtain ⟨I14, L15, rfl, rfl, H⟩ := p12
      exact ev_vret rfl dReform_readUnit_159 H
    · have H := H.2 c3
      refine ev_aload_n dReform_readUnit_138 rfl ?_
      refine ev_callV [] [.ref o] (B' := (0, 0)) (B'' := (0, 0)) hok mmTape_value mk_Reform_91 (ci := 8) rfl rfl (woTape hw1) rfl (Nat.le_of_ble_eq_true rfl) rfl (Nat.le_of_ble_eq_true rfl) dReform_readUnit_139 rfl (by omega) H (fun v τ p16 => ?_)
      obtain ⟨r17, I18, L19, rfl, rfl, H⟩ := p16
      refine ev_goto 152 dReform_readUnit_142 (by decide) ?_
      refine ev_callV [.int r17] [] (B' := (0, 0)) (B'' := (0, 0)) hok mmReform_emit mk_Reform_101 (ci := 6) rfl rfl (woReform hw) rfl (Nat.le_of_ble_eq_true rfl) rfl (Nat.le_of_ble_eq_true rfl) dReform_readUnit_152 rfl (by omega) H (fun v τ p20 => ?_)
      obtain ⟨I22, L23, rfl, rfl, H⟩ := p20
      refine ev_aload_n dReform_readUnit_155 rfl ?_
      refine ev_callV [] [] (B' := (0, 0)) (B'' := (0, 0)) hok mmTape_step mk_Reform_77 (ci := 8) rfl rfl (woTape hw1) rfl (Nat.le_of_ble_eq_true rfl) rfl (Nat.le_of_ble_eq_true rfl) dReform_readUnit_156 rfl (by omega) H (fun v τ p24 => ?_)
      obtain ⟨I26, L27, rfl, rfl, H⟩ := p24
      exact ev_vret rfl dReform_readUnit_159 H
  · have H := H.2 c2
    refine ev_aload_n dReform_readUnit_109 rfl ?_
    refine ev_callV [] [] (B' := (0, 0)) (B'' := (0, 0)) hok mmTape_step mk_Reform_77 (ci := 8) rfl rfl (woTape hw1) rfl (Nat.le_of_ble_eq_true rfl) rfl (Nat.le_of_ble_eq_true rfl) dReform_readUnit_110 rfl (by omega) H (fun v τ p28 => ?_)
    obtain ⟨I30, L31, rfl, rfl, H⟩ := p28
    refine ev_aload_n dReform_readUnit_113 rfl ?_
    refine ev_aload_n dReform_readUnit_114 rfl ?_
    refine ev_iload_n dReform_readUnit_115 rfl ?_
    refine ev_iconst (1) dReform_readUnit_116 (by decide) ?_
    refine ev_iadd dReform_readUnit_117 ?_
    refine ev_callV [.ref x1, .int ((x2 + 1))] [] (B' := (0, 0)) (B'' := (0, 0)) hok mmReform_readEither mk_Reform_80 (ci := 6) rfl rfl (woReform hw) rfl (Nat.le_of_ble_eq_true rfl) rfl (Nat.le_of_ble_eq_true rfl) dReform_readUnit_118 rfl (Nat.le_refl _) H (fun v τ p32 => ?_)
    obtain ⟨I34, L35, rfl, rfl, H⟩ := p32
    refine ev_aload_n dReform_readUnit_121 rfl ?_
    refine ev_aload_n dReform_readUnit_122 rfl ?_
    refine ev_bipush (41) dReform_readUnit_123 (by decide) ?_
    refine ev_callV [.int 41] [.ref x1] (B' := (0, 0)) (B'' := (0, 0)) hok mmTape_isSign mk_Reform_110 (ci := 8) rfl rfl (woTape hw1) rfl (Nat.le_of_ble_eq_true rfl) rfl (Nat.le_of_ble_eq_true rfl) dReform_readUnit_125 rfl (by omega) H (fun v τ p36 => ?_)
    obtain ⟨r37, I38, L39, rfl, rfl, H⟩ := p36
    refine ev_callV [.int r37] [] (B' := (0, 0)) (B'' := (0, 0)) hok mmTape_passIf mk_Reform_128 (ci := 8) rfl rfl (woTape hw1) rfl (Nat.le_of_ble_eq_true rfl) rfl (Nat.le_of_ble_eq_true rfl) dReform_readUnit_128 rfl (by omega) H (fun v τ p40 => ?_)
    obtain ⟨I42, L43, rfl, rfl, H⟩ := p40
    exact ev_vret rfl dReform_readUnit_131 H
def fReform_readUnit_73 (D : va_G) (cA : FieldType → ClassId) (b : Nat) (E : State → Prop) (o : Nat) (n : Nat) (sh : Nat → qC) (Rf : Nat → Nat → Option Nat) (I : Nat → Nat → Int32) (L : Nat → Nat → Int64) (post : Option Value → qS → Prop) (x1 : Nat) (x2 : Int32) (x3 : Int32) (x4 : Int32) (d : Nat) : Prop :=
  ((x4 = 0 → fReform_readUnit_95 D cA b E o n sh Rf I L post x1 x2 x3 x4 d) ∧ (¬ x4 = 0 → Ev (qGG D cA b E) mTape_value 0 (0, 0) 0 (lv_args 0 [.ref x1]) [] (n, sh, Rf, I, L) (fun v τ => ∃ (r3 : Int32) (I4 : Nat → Nat → Int32) (L5 : Nat → Nat → Int64), v = some (.int r3) ∧ τ = (n, sh, Rf, I4, L5) ∧ Ev (qGG D cA b E) mReform_mayAsk 0 (0, 0) 0 (lv_args 0 [.ref o, .int r3]) [] (n, sh, Rf, I4, L5) (fun v τ => ∃ (r7 : Int32) (I8 : Nat → Nat → Int32) (L9 : Nat → Nat → Int64), v = some (.int r7) ∧ τ = (n, sh, Rf, I8, L9) ∧ ((¬ r7 = 0 → fReform_readUnit_95 D cA b E o n sh Rf I8 L9 post x1 x2 x3 x4 d) ∧ (r7 = 0 → Ev (qGG D cA b E) mTape_refuse 0 (0, 0) 0 (lv_args 0 [.ref x1, .int 5]) [] (n, sh, Rf, I8, L9) (fun v τ => ∃ (I13 : Nat → Nat → Int32) (L14 : Nat → Nat → Int64), v = none ∧ τ = (n, sh, Rf, I13, L14) ∧ post none (n, sh, Rf, I13, L14))))))))
set_option maxHeartbeats 4000000 in
set_option maxRecDepth 20000 in
theorem sReform_readUnit_73 {D : va_G} {cA : FieldType → ClassId} {b : Nat} {E : State → Prop} (o : Nat) (n : Nat) (sh : Nat → qC) (Rf : Nat → Nat → Option Nat) (I : Nat → Nat → Int32) (L : Nat → Nat → Int64) (post : Option Value → qS → Prop) (x1 : Nat) (x2 : Int32) (x3 : Int32) (x4 : Int32) (d : Nat) (hok : q_ok (qGG D cA b E)) (hw : WfReform (qGG D cA b E) n sh Rf o) (hw1 : WfTape (qGG D cA b E) n sh Rf x1) (hd0 : 5 ≤ d) (H : fReform_readUnit_73 D cA b E o n sh Rf I L post x1 x2 x3 x4 d) : Ev (qGG D cA b E) mReform_readUnit (d + 1) (0, 0) 73 [(0, .ref o), (1, .ref x1), (2, .int x2), (3, .int x3), (4, .int x4)] [] (n, sh, Rf, I, L) post := by
  unfold fReform_readUnit_73 at H
  refine ev_iload dReform_readUnit_73 rfl ?_
  refine ev_if_eq 95 dReform_readUnit_75 (by decide) (fun c1 => ?_) (fun c1 => ?_)
  · have H := H.1 c1
    exact ev_sub [(0, .ref o), (1, .ref x1), (2, .int x2), (3, .int x3), (4, .int x4)] rfl (sReform_readUnit_95 o n sh Rf I L post x1 x2 x3 x4 d hok hw hw1 hd0 H)
  · have H := H.2 c1
    refine ev_aload_n dReform_readUnit_78 rfl ?_
    refine ev_aload_n dReform_readUnit_79 rfl ?_
    refine ev_callV [] [.ref o] (B' := (0, 0)) (B'' := (0, 0)) hok mmTape_value mk_Reform_91 (ci := 8) rfl rfl (woTape hw1) rfl (Nat.le_of_ble_eq_true rfl) rfl (Nat.le_of_ble_eq_true rfl) dReform_readUnit_80 rfl (by omega) H (fun v τ p2 => ?_)
    obtain ⟨r3, I4, L5, rfl, rfl, H⟩ := p2
    refine ev_callV [.int r3] [] (B' := (0, 0)) (B'' := (0, 0)) hok mmReform_mayAsk mk_Reform_125 (ci := 6) rfl rfl (woReform hw) rfl (Nat.le_of_ble_eq_true rfl) rfl (Nat.le_of_ble_eq_true rfl) dReform_readUnit_83 rfl (by omega) H (fun v τ p6 => ?_)
    obtain ⟨r7, I8, L9, rfl, rfl, H⟩ := p6
    refine ev_if_ne 95 dReform_readUnit_86 (by decide) (fun c10 => ?_) (fun c10 => ?_)
    · have H := H.1 c10
      exact ev_sub [(0, .ref o), (1, .ref x1), (2, .int x2), (3, .int x3), (4, .int x4)] rfl (sReform_readUnit_95 o n sh Rf I8 L9 post x1 x2 x3 x4 d hok hw hw1 hd0 H)
    · have H := H.2 c10
      refine ev_aload_n dReform_readUnit_89 rfl ?_
      refine ev_iconst (5) dReform_readUnit_90 (by decide) ?_
      refine ev_callV [.int 5] [] (B' := (0, 0)) (B'' := (0, 0)) hok mmTape_refuse mk_Reform_73 (ci := 8) rfl rfl (woTape hw1) rfl (Nat.le_of_ble_eq_true rfl) rfl (Nat.le_of_ble_eq_true rfl) dReform_readUnit_91 rfl (by omega) H (fun v τ p11 => ?_)
      obtain ⟨I13, L14, rfl, rfl, H⟩ := p11
      exact ev_vret rfl dReform_readUnit_94 H
def fReform_readUnit_57 (D : va_G) (cA : FieldType → ClassId) (b : Nat) (E : State → Prop) (o : Nat) (n : Nat) (sh : Nat → qC) (Rf : Nat → Nat → Option Nat) (I : Nat → Nat → Int32) (L : Nat → Nat → Int64) (post : Option Value → qS → Prop) (x1 : Nat) (x2 : Int32) (x3 : Int32) (x4 : Int32) (d : Nat) : Prop :=
  ((x3 = 0 → fReform_readUnit_73 D cA b E o n sh Rf I L post x1 x2 x3 x4 d) ∧ (¬ x3 = 0 → ((x2 ≤ 6 → fReform_readUnit_73 D cA b E o n sh Rf I L post x1 x2 x3 x4 d) ∧ (¬ x2 ≤ 6 → Ev (qGG D cA b E) mTape_refuse 0 (0, 0) 0 (lv_args 0 [.ref x1, .int 2]) [] (n, sh, Rf, I, L) (fun v τ => ∃ (I5 : Nat → Nat → Int32) (L6 : Nat → Nat → Int64), v = none ∧ τ = (n, sh, Rf, I5, L6) ∧ post none (n, sh, Rf, I5, L6))))))
set_option maxHeartbeats 4000000 in
set_option maxRecDepth 20000 in
theorem sReform_readUnit_57 {D : va_G} {cA : FieldType → ClassId} {b : Nat} {E : State → Prop} (o : Nat) (n : Nat) (sh : Nat → qC) (Rf : Nat → Nat → Option Nat) (I : Nat → Nat → Int32) (L : Nat → Nat → Int64) (post : Option Value → qS → Prop) (x1 : Nat) (x2 : Int32) (x3 : Int32) (x4 : Int32) (d : Nat) (hok : q_ok (qGG D cA b E)) (hw : WfReform (qGG D cA b E) n sh Rf o) (hw1 : WfTape (qGG D cA b E) n sh Rf x1) (hd0 : 5 ≤ d) (H : fReform_readUnit_57 D cA b E o n sh Rf I L post x1 x2 x3 x4 d) : Ev (qGG D cA b E) mReform_readUnit (d + 1) (0, 0) 57 [(0, .ref o), (1, .ref x1), (2, .int x2), (3, .int x3), (4, .int x4)] [] (n, sh, Rf, I, L) post := by
  unfold fReform_readUnit_57 at H
  refine ev_iload_n dReform_readUnit_57 rfl ?_
  refine ev_if_eq 73 dReform_readUnit_58 (by decide) (fun c1 => ?_) (fun c1 => ?_)
  · have H := H.1 c1
    exact ev_sub [(0, .ref o), (1, .ref x1), (2, .int x2), (3, .int x3), (4, .int x4)] rfl (sReform_readUnit_73 o n sh Rf I L post x1 x2 x3 x4 d hok hw hw1 hd0 H)
  · have H := H.2 c1
    refine ev_iload_n dReform_readUnit_61 rfl ?_
    refine ev_bipush (6) dReform_readUnit_62 (by decide) ?_
    refine ev_icmp_le 73 dReform_readUnit_64 (by decide) (fun c2 => ?_) (fun c2 => ?_)
    · have H := H.1 c2
      exact ev_sub [(0, .ref o), (1, .ref x1), (2, .int x2), (3, .int x3), (4, .int x4)] rfl (sReform_readUnit_73 o n sh Rf I L post x1 x2 x3 x4 d hok hw hw1 hd0 H)
    · have H := H.2 c2
      refine ev_aload_n dReform_readUnit_67 rfl ?_
      refine ev_iconst (2) dReform_readUnit_68 (by decide) ?_
      refine ev_callV [.int 2] [] (B' := (0, 0)) (B'' := (0, 0)) hok mmTape_refuse mk_Reform_73 (ci := 8) rfl rfl (woTape hw1) rfl (Nat.le_of_ble_eq_true rfl) rfl (Nat.le_of_ble_eq_true rfl) dReform_readUnit_69 rfl (by omega) H (fun v τ p3 => ?_)
      obtain ⟨I5, L6, rfl, rfl, H⟩ := p3
      exact ev_vret rfl dReform_readUnit_72 H
def fReform_readUnit_30 (D : va_G) (cA : FieldType → ClassId) (b : Nat) (E : State → Prop) (o : Nat) (n : Nat) (sh : Nat → qC) (Rf : Nat → Nat → Option Nat) (I : Nat → Nat → Int32) (L : Nat → Nat → Int64) (post : Option Value → qS → Prop) (x1 : Nat) (x2 : Int32) (x3 : Int32) (z0 : Int32) (d : Nat) : Prop :=
  ((100 ≤ (I o 7) → Ev (qGG D cA b E) mTape_refuse 0 (0, 0) 0 (lv_args 0 [.ref x1, .int 2]) [] (n, sh, Rf, I, L) (fun v τ => ∃ (I4 : Nat → Nat → Int32) (L5 : Nat → Nat → Int64), v = none ∧ τ = (n, sh, Rf, I4, L5) ∧ post none (n, sh, Rf, I4, L5))) ∧ (¬ 100 ≤ (I o 7) → ((¬ x3 = 0 → fReform_readUnit_57 D cA b E o n sh Rf I L post x1 x2 x3 z0 d) ∧ (x3 = 0 → ((¬ z0 = 0 → fReform_readUnit_57 D cA b E o n sh Rf I L post x1 x2 x3 z0 d) ∧ (z0 = 0 → Ev (qGG D cA b E) mTape_isNumber 0 (0, 0) 0 (lv_args 0 [.ref x1]) [] (n, sh, Rf, I, L) (fun v τ => ∃ (r9 : Int32) (I10 : Nat → Nat → Int32) (L11 : Nat → Nat → Int64), v = some (.int r9) ∧ τ = (n, sh, Rf, I10, L11) ∧ ((r9 = 0 → Ev (qGG D cA b E) mTape_refuse 0 (0, 0) 0 (lv_args 0 [.ref x1, .int 2]) [] (n, sh, Rf, I10, L11) (fun v τ => ∃ (I15 : Nat → Nat → Int32) (L16 : Nat → Nat → Int64), v = none ∧ τ = (n, sh, Rf, I15, L16) ∧ post none (n, sh, Rf, I15, L16))) ∧ (¬ r9 = 0 → fReform_readUnit_57 D cA b E o n sh Rf I10 L11 post x1 x2 x3 z0 d)))))))))
set_option maxHeartbeats 4000000 in
set_option maxRecDepth 20000 in
theorem sReform_readUnit_30 {D : va_G} {cA : FieldType → ClassId} {b : Nat} {E : State → Prop} (o : Nat) (n : Nat) (sh : Nat → qC) (Rf : Nat → Nat → Option Nat) (I : Nat → Nat → Int32) (L : Nat → Nat → Int64) (post : Option Value → qS → Prop) (x1 : Nat) (x2 : Int32) (x3 : Int32) (z0 : Int32) (d : Nat) (hok : q_ok (qGG D cA b E)) (hw : WfReform (qGG D cA b E) n sh Rf o) (hw1 : WfTape (qGG D cA b E) n sh Rf x1) (hd0 : 5 ≤ d) (H : fReform_readUnit_30 D cA b E o n sh Rf I L post x1 x2 x3 z0 d) : Ev (qGG D cA b E) mReform_readUnit (d + 1) (0, 0) 30 [(0, .ref o), (1, .ref x1), (2, .int x2), (3, .int x3)] [.int z0] (n, sh, Rf, I, L) post := by
  unfold fReform_readUnit_30 at H
  refine ev_istore dReform_readUnit_30 (by decide) ?_
  refine ev_aload_n dReform_readUnit_32 rfl ?_
  refine ev_getI hok fk_Reform_34 (woReform hw) (fun _ _ _ => rfl) dReform_readUnit_33 ?_
  refine ev_bipush (100) dReform_readUnit_36 (by decide) ?_
  refine ev_icmp_ge 67 dReform_readUnit_38 (by decide) (fun c1 => ?_) (fun c1 => ?_)
  · have H := H.1 c1
    refine ev_aload_n dReform_readUnit_67 rfl ?_
    refine ev_iconst (2) dReform_readUnit_68 (by decide) ?_
    refine ev_callV [.int 2] [] (B' := (0, 0)) (B'' := (0, 0)) hok mmTape_refuse mk_Reform_73 (ci := 8) rfl rfl (woTape hw1) rfl (Nat.le_of_ble_eq_true rfl) rfl (Nat.le_of_ble_eq_true rfl) dReform_readUnit_69 rfl (by omega) H (fun v τ p2 => ?_)
    obtain ⟨I4, L5, rfl, rfl, H⟩ := p2
    exact ev_vret rfl dReform_readUnit_72 H
  · have H := H.2 c1
    refine ev_iload_n dReform_readUnit_41 rfl ?_
    refine ev_if_ne 57 dReform_readUnit_42 (by decide) (fun c6 => ?_) (fun c6 => ?_)
    · have H := H.1 c6
      exact ev_sub [(0, .ref o), (1, .ref x1), (2, .int x2), (3, .int x3), (4, .int z0)] rfl (sReform_readUnit_57 o n sh Rf I L post x1 x2 x3 z0 d hok hw hw1 hd0 H)
    · have H := H.2 c6
      refine ev_iload dReform_readUnit_45 rfl ?_
      refine ev_if_ne 57 dReform_readUnit_47 (by decide) (fun c7 => ?_) (fun c7 => ?_)
      · have H := H.1 c7
        exact ev_sub [(0, .ref o), (1, .ref x1), (2, .int x2), (3, .int x3), (4, .int z0)] rfl (sReform_readUnit_57 o n sh Rf I L post x1 x2 x3 z0 d hok hw hw1 hd0 H)
      · have H := H.2 c7
        refine ev_aload_n dReform_readUnit_50 rfl ?_
        refine ev_callV [] [] (B' := (0, 0)) (B'' := (0, 0)) hok mmTape_isNumber mk_Reform_122 (ci := 8) rfl rfl (woTape hw1) rfl (Nat.le_of_ble_eq_true rfl) rfl (Nat.le_of_ble_eq_true rfl) dReform_readUnit_51 rfl (by omega) H (fun v τ p8 => ?_)
        obtain ⟨r9, I10, L11, rfl, rfl, H⟩ := p8
        refine ev_if_eq 67 dReform_readUnit_54 (by decide) (fun c12 => ?_) (fun c12 => ?_)
        · have H := H.1 c12
          refine ev_aload_n dReform_readUnit_67 rfl ?_
          refine ev_iconst (2) dReform_readUnit_68 (by decide) ?_
          refine ev_callV [.int 2] [] (B' := (0, 0)) (B'' := (0, 0)) hok mmTape_refuse mk_Reform_73 (ci := 8) rfl rfl (woTape hw1) rfl (Nat.le_of_ble_eq_true rfl) rfl (Nat.le_of_ble_eq_true rfl) dReform_readUnit_69 rfl (by omega) H (fun v τ p13 => ?_)
          obtain ⟨I15, L16, rfl, rfl, H⟩ := p13
          exact ev_vret rfl dReform_readUnit_72 H
        · have H := H.2 c12
          exact ev_sub [(0, .ref o), (1, .ref x1), (2, .int x2), (3, .int x3), (4, .int z0)] rfl (sReform_readUnit_57 o n sh Rf I10 L11 post x1 x2 x3 z0 d hok hw hw1 hd0 H)
def fReform_readUnit_29 (D : va_G) (cA : FieldType → ClassId) (b : Nat) (E : State → Prop) (o : Nat) (n : Nat) (sh : Nat → qC) (Rf : Nat → Nat → Option Nat) (I : Nat → Nat → Int32) (L : Nat → Nat → Int64) (post : Option Value → qS → Prop) (x1 : Nat) (x2 : Int32) (x3 : Int32) (d : Nat) : Prop :=
  fReform_readUnit_30 D cA b E o n sh Rf I L post x1 x2 x3 0 d
set_option maxHeartbeats 4000000 in
set_option maxRecDepth 20000 in
theorem sReform_readUnit_29 {D : va_G} {cA : FieldType → ClassId} {b : Nat} {E : State → Prop} (o : Nat) (n : Nat) (sh : Nat → qC) (Rf : Nat → Nat → Option Nat) (I : Nat → Nat → Int32) (L : Nat → Nat → Int64) (post : Option Value → qS → Prop) (x1 : Nat) (x2 : Int32) (x3 : Int32) (d : Nat) (hok : q_ok (qGG D cA b E)) (hw : WfReform (qGG D cA b E) n sh Rf o) (hw1 : WfTape (qGG D cA b E) n sh Rf x1) (hd0 : 5 ≤ d) (H : fReform_readUnit_29 D cA b E o n sh Rf I L post x1 x2 x3 d) : Ev (qGG D cA b E) mReform_readUnit (d + 1) (0, 0) 29 [(0, .ref o), (1, .ref x1), (2, .int x2), (3, .int x3)] [] (n, sh, Rf, I, L) post := by
  unfold fReform_readUnit_29 at H
  refine ev_iconst (0) dReform_readUnit_29 (by decide) ?_
  exact ev_sub [(0, .ref o), (1, .ref x1), (2, .int x2), (3, .int x3)] rfl (sReform_readUnit_30 o n sh Rf I L post x1 x2 x3 0 d hok hw hw1 hd0 H)
def fReform_readUnit_0 (D : va_G) (cA : FieldType → ClassId) (b : Nat) (E : State → Prop) (o : Nat) (n : Nat) (sh : Nat → qC) (Rf : Nat → Nat → Option Nat) (I : Nat → Nat → Int32) (L : Nat → Nat → Int64) (post : Option Value → qS → Prop) (x1 : Nat) (x2 : Int32) (d : Nat) : Prop :=
  Ev (qGG D cA b E) mTape_isSign 0 (0, 0) 0 (lv_args 0 [.ref x1, .int 40]) [] (n, sh, Rf, I, L) (fun v τ => ∃ (r2 : Int32) (I3 : Nat → Nat → Int32) (L4 : Nat → Nat → Int64), v = some (.int r2) ∧ τ = (n, sh, Rf, I3, L4) ∧ Ev (qGG D cA b E) mTape_kind 0 (0, 0) 0 (lv_args 0 [.ref x1]) [] (n, sh, Rf, I3, L4) (fun v τ => ∃ (r6 : Int32) (I7 : Nat → Nat → Int32) (L8 : Nat → Nat → Int64), v = some (.int r6) ∧ τ = (n, sh, Rf, I7, L8) ∧ ((¬ r6 = 1 → fReform_readUnit_29 D cA b E o n sh Rf I7 L8 post x1 x2 r2 d) ∧ (r6 = 1 → Ev (qGG D cA b E) mTape_value 0 (0, 0) 0 (lv_args 0 [.ref x1]) [] (n, sh, Rf, I7, L8) (fun v τ => ∃ (r11 : Int32) (I12 : Nat → Nat → Int32) (L13 : Nat → Nat → Int64), v = some (.int r11) ∧ τ = (n, sh, Rf, I12, L13) ∧ Ev (qGG D cA b E) mReform_isAsked 0 (0, 0) 0 (lv_args 0 [.int r11]) [] (n, sh, Rf, I12, L13) (fun v τ => ∃ (r15 : Int32) (I16 : Nat → Nat → Int32) (L17 : Nat → Nat → Int64), v = some (.int r15) ∧ τ = (n, sh, Rf, I16, L17) ∧ ((r15 = 0 → fReform_readUnit_29 D cA b E o n sh Rf I16 L17 post x1 x2 r2 d) ∧ (¬ r15 = 0 → fReform_readUnit_30 D cA b E o n sh Rf I16 L17 post x1 x2 r2 1 d))))))))
set_option maxHeartbeats 4000000 in
set_option maxRecDepth 20000 in
theorem sReform_readUnit_0 {D : va_G} {cA : FieldType → ClassId} {b : Nat} {E : State → Prop} (o : Nat) (n : Nat) (sh : Nat → qC) (Rf : Nat → Nat → Option Nat) (I : Nat → Nat → Int32) (L : Nat → Nat → Int64) (post : Option Value → qS → Prop) (x1 : Nat) (x2 : Int32) (d : Nat) (hok : q_ok (qGG D cA b E)) (hw : WfReform (qGG D cA b E) n sh Rf o) (hw1 : WfTape (qGG D cA b E) n sh Rf x1) (hd0 : 5 ≤ d) (H : fReform_readUnit_0 D cA b E o n sh Rf I L post x1 x2 d) : Ev (qGG D cA b E) mReform_readUnit (d + 1) (0, 0) 0 [(0, .ref o), (1, .ref x1), (2, .int x2)] [] (n, sh, Rf, I, L) post := by
  unfold fReform_readUnit_0 at H
  refine ev_aload_n dReform_readUnit_0 rfl ?_
  refine ev_bipush (40) dReform_readUnit_1 (by decide) ?_
  refine ev_callV [.int 40] [] (B' := (0, 0)) (B'' := (0, 0)) hok mmTape_isSign mk_Reform_110 (ci := 8) rfl rfl (woTape hw1) rfl (Nat.le_of_ble_eq_true rfl) rfl (Nat.le_of_ble_eq_true rfl) dReform_readUnit_3 rfl (by omega) H (fun v τ p1 => ?_)
  obtain ⟨r2, I3, L4, rfl, rfl, H⟩ := p1
  refine ev_istore_n dReform_readUnit_6 (by decide) ?_
  refine ev_aload_n dReform_readUnit_7 rfl ?_
  refine ev_callV [] [] (B' := (0, 0)) (B'' := (0, 0)) hok mmTape_kind mk_Reform_87 (ci := 8) rfl rfl (woTape hw1) rfl (Nat.le_of_ble_eq_true rfl) rfl (Nat.le_of_ble_eq_true rfl) dReform_readUnit_8 rfl (by omega) H (fun v τ p5 => ?_)
  obtain ⟨r6, I7, L8, rfl, rfl, H⟩ := p5
  refine ev_iconst (1) dReform_readUnit_11 (by decide) ?_
  refine ev_icmp_ne 29 dReform_readUnit_12 (by decide) (fun c9 => ?_) (fun c9 => ?_)
  · have H := H.1 c9
    exact ev_sub [(0, .ref o), (1, .ref x1), (2, .int x2), (3, .int r2)] rfl (sReform_readUnit_29 o n sh Rf I7 L8 post x1 x2 r2 d hok hw hw1 hd0 H)
  · have H := H.2 c9
    refine ev_aload_n dReform_readUnit_15 rfl ?_
    refine ev_callV [] [] (B' := (0, 0)) (B'' := (0, 0)) hok mmTape_value mk_Reform_91 (ci := 8) rfl rfl (woTape hw1) rfl (Nat.le_of_ble_eq_true rfl) rfl (Nat.le_of_ble_eq_true rfl) dReform_readUnit_16 rfl (by omega) H (fun v τ p10 => ?_)
    obtain ⟨r11, I12, L13, rfl, rfl, H⟩ := p10
    refine ev_callS [.int r11] [] (B' := (0, 0)) (B'' := (0, 0)) hok mmReform_isAsked mk_Reform_119 rfl (Nat.le_of_ble_eq_true rfl) rfl (Nat.le_of_ble_eq_true rfl) dReform_readUnit_19 rfl (by omega) H (fun v τ p14 => ?_)
    obtain ⟨r15, I16, L17, rfl, rfl, H⟩ := p14
    refine ev_if_eq 29 dReform_readUnit_22 (by decide) (fun c18 => ?_) (fun c18 => ?_)
    · have H := H.1 c18
      exact ev_sub [(0, .ref o), (1, .ref x1), (2, .int x2), (3, .int r2)] rfl (sReform_readUnit_29 o n sh Rf I16 L17 post x1 x2 r2 d hok hw hw1 hd0 H)
    · have H := H.2 c18
      refine ev_iconst (1) dReform_readUnit_25 (by decide) ?_
      refine ev_goto 30 dReform_readUnit_26 (by decide) ?_
      exact ev_sub [(0, .ref o), (1, .ref x1), (2, .int x2), (3, .int r2)] rfl (sReform_readUnit_30 o n sh Rf I16 L17 post x1 x2 r2 1 d hok hw hw1 hd0 H)
def fReform_readLine_0 (D : va_G) (cA : FieldType → ClassId) (b : Nat) (E : State → Prop) (o : Nat) (n : Nat) (sh : Nat → qC) (Rf : Nat → Nat → Option Nat) (I : Nat → Nat → Int32) (L : Nat → Nat → Int64) (post : Option Value → qS → Prop) (x1 : Nat) : Prop :=
  Ev (qGG D cA b E) mReform_freeSlot 1 (0, 0) 0 (lv_args 0 [.ref o, .ref x1]) [] (n, sh, Rf, I, L) (fun v τ => ∃ (r2 : Int32) (I3 : Nat → Nat → Int32) (L4 : Nat → Nat → Int64), v = some (.int r2) ∧ τ = (n, sh, Rf, I3, L4) ∧ ∀ I5 : Nat → Nat → Int32, q_u I3 o 8 r2 = I5 → ((¬ (I5 o 8) = (-1) → Ev (qGG D cA b E) mTape_step 0 (0, 0) 0 (lv_args 0 [.ref x1]) [] (n, sh, Rf, I5, L4) (fun v τ => ∃ (I9 : Nat → Nat → Int32) (L10 : Nat → Nat → Int64), v = none ∧ τ = (n, sh, Rf, I9, L10) ∧ vp_in (I9 o 8) 11 ∧ ∀ I11 : Nat → Nat → Int32, q_u I9 (o + 2) ((I9 o 8) : Int32).toNatClampNeg (I9 o 4) = I11 → Ev (qGG D cA b E) mReform_readEither 100 (0, 0) 0 (lv_args 0 [.ref o, .ref x1, .int 0]) [] (n, sh, Rf, I11, L10) (fun v τ => ∃ (I15 : Nat → Nat → Int32) (L16 : Nat → Nat → Int64), v = none ∧ τ = (n, sh, Rf, I15, L16) ∧ vp_in (I15 o 8) 11 ∧ ∀ I17 : Nat → Nat → Int32, q_u I15 (o + 3) ((I15 o 8) : Int32).toNatClampNeg (I15 o 4) = I17 → (((I17 o 8) < 6 → Ev (qGG D cA b E) mTape_closeLine 2 (0, 0) 0 (lv_args 0 [.ref x1]) [] (n, sh, Rf, I17, L16) (fun v τ => ∃ (r21 : Int32) (I22 : Nat → Nat → Int32) (L23 : Nat → Nat → Int64), v = some (.int r21) ∧ τ = (n, sh, Rf, I22, L23) ∧ ((r21 = 0 ∨ r21 = 1) ∧ post (some (.int r21)) (n, sh, Rf, I22, L23)))) ∧ (¬ (I17 o 8) < 6 → ∀ I24 : Nat → Nat → Int32, q_u I17 o 6 ((I17 o 6) + 1) = I24 → Ev (qGG D cA b E) mTape_closeLine 2 (0, 0) 0 (lv_args 0 [.ref x1]) [] (n, sh, Rf, I24, L16) (fun v τ => ∃ (r26 : Int32) (I27 : Nat → Nat → Int32) (L28 : Nat → Nat → Int64), v = some (.int r26) ∧ τ = (n, sh, Rf, I27, L28) ∧ ((r26 = 0 ∨ r26 = 1) ∧ post (some (.int r26)) (n, sh, Rf, I27, L28)))))))) ∧ ((I5 o 8) = (-1) → Ev (qGG D cA b E) mTape_refuse 0 (0, 0) 0 (lv_args 0 [.ref x1, .int 2]) [] (n, sh, Rf, I5, L4) (fun v τ => ∃ (I31 : Nat → Nat → Int32) (L32 : Nat → Nat → Int64), v = none ∧ τ = (n, sh, Rf, I31, L32) ∧ post (some (.int 0)) (n, sh, Rf, I31, L32)))))
set_option maxHeartbeats 4000000 in
set_option maxRecDepth 20000 in
theorem sReform_readLine_0 {D : va_G} {cA : FieldType → ClassId} {b : Nat} {E : State → Prop} (o : Nat) (n : Nat) (sh : Nat → qC) (Rf : Nat → Nat → Option Nat) (I : Nat → Nat → Int32) (L : Nat → Nat → Int64) (post : Option Value → qS → Prop) (x1 : Nat) (hok : q_ok (qGG D cA b E)) (hw : WfReform (qGG D cA b E) n sh Rf o) (hw1 : WfTape (qGG D cA b E) n sh Rf x1) (H : fReform_readLine_0 D cA b E o n sh Rf I L post x1) : Ev (qGG D cA b E) mReform_readLine 101 (0, 0) 0 [(0, .ref o), (1, .ref x1)] [] (n, sh, Rf, I, L) post := by
  unfold fReform_readLine_0 at H
  refine ev_aload_n dReform_readLine_0 rfl ?_
  refine ev_aload_n dReform_readLine_1 rfl ?_
  refine ev_aload_n dReform_readLine_2 rfl ?_
  refine ev_callV [.ref x1] [.ref o] (B' := (0, 0)) (B'' := (0, 0)) hok mmReform_freeSlot mk_Reform_69 (ci := 6) rfl rfl (woReform hw) rfl (Nat.le_of_ble_eq_true rfl) rfl (Nat.le_of_ble_eq_true rfl) dReform_readLine_3 rfl (by decide) H (fun v τ p1 => ?_)
  obtain ⟨r2, I3, L4, rfl, rfl, H⟩ := p1
  refine ev_putI hok fk_Reform_37 (woReform hw) (fun _ _ _ => rfl) rfl rfl dReform_readLine_6 ?_
  generalize eI5 : q_u I3 o 8 r2 = I5
  have H := H I5 eI5
  refine ev_aload_n dReform_readLine_9 rfl ?_
  refine ev_getI hok fk_Reform_37 (woReform hw) (fun _ _ _ => rfl) dReform_readLine_10 ?_
  refine ev_iconst (-1) dReform_readLine_13 (by decide) ?_
  refine ev_icmp_ne 24 dReform_readLine_14 (by decide) (fun c6 => ?_) (fun c6 => ?_)
  · have H := H.1 c6
    refine ev_aload_n dReform_readLine_24 rfl ?_
    refine ev_callV [] [] (B' := (0, 0)) (B'' := (0, 0)) hok mmTape_step mk_Reform_77 (ci := 8) rfl rfl (woTape hw1) rfl (Nat.le_of_ble_eq_true rfl) rfl (Nat.le_of_ble_eq_true rfl) dReform_readLine_25 rfl (by decide) H (fun v τ p7 => ?_)
    obtain ⟨I9, L10, rfl, rfl, H⟩ := p7
    refine ev_aload_n dReform_readLine_28 rfl ?_
    refine ev_getR hok fk_Reform_15 (woReform hw) (fun _ _ _ => rfl) (wrReform_1 hw) dReform_readLine_29 ?_
    refine ev_aload_n dReform_readLine_32 rfl ?_
    refine ev_getI hok fk_Reform_37 (woReform hw) (fun _ _ _ => rfl) dReform_readLine_33 ?_
    refine ev_aload_n dReform_readLine_36 rfl ?_
    refine ev_getI hok fk_Reform_24 (woReform hw) (fun _ _ _ => rfl) dReform_readLine_37 ?_
    obtain ⟨h12, H⟩ := H
    refine ev_iast hok (waReform_1 hw) h12 dReform_readLine_40 ?_
    generalize eI11 : q_u I9 (o + 2) ((I9 o 8) : Int32).toNatClampNeg (I9 o 4) = I11
    have H := H I11 eI11
    refine ev_aload_n dReform_readLine_41 rfl ?_
    refine ev_aload_n dReform_readLine_42 rfl ?_
    refine ev_iconst (0) dReform_readLine_43 (by decide) ?_
    refine ev_callV [.ref x1, .int 0] [] (B' := (0, 0)) (B'' := (0, 0)) hok mmReform_readEither mk_Reform_80 (ci := 6) rfl rfl (woReform hw) rfl (Nat.le_of_ble_eq_true rfl) rfl (Nat.le_of_ble_eq_true rfl) dReform_readLine_44 rfl (by decide) H (fun v τ p13 => ?_)
    obtain ⟨I15, L16, rfl, rfl, H⟩ := p13
    refine ev_aload_n dReform_readLine_47 rfl ?_
    refine ev_getR hok fk_Reform_18 (woReform hw) (fun _ _ _ => rfl) (wrReform_2 hw) dReform_readLine_48 ?_
    refine ev_aload_n dReform_readLine_51 rfl ?_
    refine ev_getI hok fk_Reform_37 (woReform hw) (fun _ _ _ => rfl) dReform_readLine_52 ?_
    refine ev_aload_n dReform_readLine_55 rfl ?_
    refine ev_getI hok fk_Reform_24 (woReform hw) (fun _ _ _ => rfl) dReform_readLine_56 ?_
    obtain ⟨h18, H⟩ := H
    refine ev_iast hok (waReform_2 hw) h18 dReform_readLine_59 ?_
    generalize eI17 : q_u I15 (o + 3) ((I15 o 8) : Int32).toNatClampNeg (I15 o 4) = I17
    have H := H I17 eI17
    refine ev_aload_n dReform_readLine_60 rfl ?_
    refine ev_getI hok fk_Reform_37 (woReform hw) (fun _ _ _ => rfl) dReform_readLine_61 ?_
    refine ev_bipush (6) dReform_readLine_64 (by decide) ?_
    refine ev_icmp_lt 79 dReform_readLine_66 (by decide) (fun c19 => ?_) (fun c19 => ?_)
    · have H := H.1 c19
      refine ev_aload_n dReform_readLine_79 rfl ?_
      refine ev_callV [] [] (B' := (0, 0)) (B'' := (0, 0)) hok mmTape_closeLine mk_Reform_84 (ci := 8) rfl rfl (woTape hw1) rfl (Nat.le_of_ble_eq_true rfl) rfl (Nat.le_of_ble_eq_true rfl) dReform_readLine_80 rfl (by decide) H (fun v τ p20 => ?_)
      obtain ⟨r21, I22, L23, rfl, rfl, H⟩ := p20
      exact ev_zret rfl (q_bz H.1) dReform_readLine_83 H.2
    · have H := H.2 c19
      refine ev_aload_n dReform_readLine_69 rfl ?_
      refine ev_dup dReform_readLine_70 rfl ?_
      refine ev_getI hok fk_Reform_31 (woReform hw) (fun _ _ _ => rfl) dReform_readLine_71 ?_
      refine ev_iconst (1) dReform_readLine_74 (by decide) ?_
      refine ev_iadd dReform_readLine_75 ?_
      refine ev_putI hok fk_Reform_31 (woReform hw) (fun _ _ _ => rfl) rfl rfl dReform_readLine_76 ?_
      generalize eI24 : q_u I17 o 6 ((I17 o 6) + 1) = I24
      have H := H I24 eI24
      refine ev_aload_n dReform_readLine_79 rfl ?_
      refine ev_callV [] [] (B' := (0, 0)) (B'' := (0, 0)) hok mmTape_closeLine mk_Reform_84 (ci := 8) rfl rfl (woTape hw1) rfl (Nat.le_of_ble_eq_true rfl) rfl (Nat.le_of_ble_eq_true rfl) dReform_readLine_80 rfl (by decide) H (fun v τ p25 => ?_)
      obtain ⟨r26, I27, L28, rfl, rfl, H⟩ := p25
      exact ev_zret rfl (q_bz H.1) dReform_readLine_83 H.2
  · have H := H.2 c6
    refine ev_aload_n dReform_readLine_17 rfl ?_
    refine ev_iconst (2) dReform_readLine_18 (by decide) ?_
    refine ev_callV [.int 2] [] (B' := (0, 0)) (B'' := (0, 0)) hok mmTape_refuse mk_Reform_73 (ci := 8) rfl rfl (woTape hw1) rfl (Nat.le_of_ble_eq_true rfl) rfl (Nat.le_of_ble_eq_true rfl) dReform_readLine_19 rfl (by decide) H (fun v τ p29 => ?_)
    obtain ⟨I31, L32, rfl, rfl, H⟩ := p29
    refine ev_iconst (0) dReform_readLine_22 (by decide) ?_
    exact ev_zret rfl (by decide) dReform_readLine_23 H
def fReform_read_11 (D : va_G) (cA : FieldType → ClassId) (b : Nat) (E : State → Prop) (o : Nat) (n : Nat) (sh : Nat → qC) (Rf : Nat → Nat → Option Nat) (I : Nat → Nat → Int32) (L : Nat → Nat → Int64) (post : Option Value → qS → Prop) (x1 : Nat) (x2 : Int32) : Prop :=
  ((700 ≤ x2 → post (some (.int 1)) (n, sh, Rf, I, L)) ∧ (¬ 700 ≤ x2 → Ev (qGG D cA b E) mTape_atEnd 0 (0, 0) 0 (lv_args 0 [.ref x1]) [] (n, sh, Rf, I, L) (fun v τ => ∃ (r3 : Int32) (I4 : Nat → Nat → Int32) (L5 : Nat → Nat → Int64), v = some (.int r3) ∧ τ = (n, sh, Rf, I4, L5) ∧ ((¬ r3 = 0 → post (some (.int 1)) (n, sh, Rf, I4, L5)) ∧ (r3 = 0 → Ev (qGG D cA b E) mReform_readLine 101 (0, 0) 0 (lv_args 0 [.ref o, .ref x1]) [] (n, sh, Rf, I4, L5) (fun v τ => ∃ (r8 : Int32) (I9 : Nat → Nat → Int32) (L10 : Nat → Nat → Int64), v = some (.int r8) ∧ τ = (n, sh, Rf, I9, L10) ∧ ((¬ r8 = 0 → ∀ I12 : Nat → Nat → Int32, q_u I9 o 5 ((I9 o 5) + 1) = I12 → Ev (qGG D cA b E) mReform_read 102 (0, 0) 11 [(0, .ref o), (1, .ref x1), (2, .int ((x2 + Int32.ofInt 1)))] [] (n, sh, Rf, I12, L10) post) ∧ (r8 = 0 → post (some (.int 0)) (n, sh, Rf, I9, L10)))))))))
set_option maxHeartbeats 4000000 in
set_option maxRecDepth 20000 in
theorem sReform_read_11 {D : va_G} {cA : FieldType → ClassId} {b : Nat} {E : State → Prop} (o : Nat) (n : Nat) (sh : Nat → qC) (Rf : Nat → Nat → Option Nat) (I : Nat → Nat → Int32) (L : Nat → Nat → Int64) (post : Option Value → qS → Prop) (x1 : Nat) (x2 : Int32) (hok : q_ok (qGG D cA b E)) (hw : WfReform (qGG D cA b E) n sh Rf o) (hw1 : WfTape (qGG D cA b E) n sh Rf x1) (H : fReform_read_11 D cA b E o n sh Rf I L post x1 x2) : Ev (qGG D cA b E) mReform_read 102 (0, 0) 11 [(0, .ref o), (1, .ref x1), (2, .int x2)] [] (n, sh, Rf, I, L) post := by
  unfold fReform_read_11 at H
  refine ev_iload_n dReform_read_11 rfl ?_
  refine ev_sipush (700) dReform_read_12 (by decide) ?_
  refine ev_icmp_ge 51 dReform_read_15 (by decide) (fun c1 => ?_) (fun c1 => ?_)
  · have H := H.1 c1
    refine ev_iconst (1) dReform_read_51 (by decide) ?_
    exact ev_zret rfl (by decide) dReform_read_52 H
  · have H := H.2 c1
    refine ev_aload_n dReform_read_18 rfl ?_
    refine ev_callV [] [] (B' := (0, 0)) (B'' := (0, 0)) hok mmTape_atEnd mk_Reform_61 (ci := 8) rfl rfl (woTape hw1) rfl (Nat.le_of_ble_eq_true rfl) rfl (Nat.le_of_ble_eq_true rfl) dReform_read_19 rfl (by decide) H (fun v τ p2 => ?_)
    obtain ⟨r3, I4, L5, rfl, rfl, H⟩ := p2
    refine ev_if_ne 51 dReform_read_22 (by decide) (fun c6 => ?_) (fun c6 => ?_)
    · have H := H.1 c6
      refine ev_iconst (1) dReform_read_51 (by decide) ?_
      exact ev_zret rfl (by decide) dReform_read_52 H
    · have H := H.2 c6
      refine ev_aload_n dReform_read_25 rfl ?_
      refine ev_aload_n dReform_read_26 rfl ?_
      refine ev_callV [.ref x1] [] (B' := (0, 0)) (B'' := (0, 0)) hok mmReform_readLine mk_Reform_65 (ci := 6) rfl rfl (woReform hw) rfl (Nat.le_of_ble_eq_true rfl) rfl (Nat.le_of_ble_eq_true rfl) dReform_read_27 rfl (by decide) H (fun v τ p7 => ?_)
      obtain ⟨r8, I9, L10, rfl, rfl, H⟩ := p7
      refine ev_if_ne 35 dReform_read_30 (by decide) (fun c11 => ?_) (fun c11 => ?_)
      · have H := H.1 c11
        refine ev_aload_n dReform_read_35 rfl ?_
        refine ev_dup dReform_read_36 rfl ?_
        refine ev_getI hok fk_Reform_28 (woReform hw) (fun _ _ _ => rfl) dReform_read_37 ?_
        refine ev_iconst (1) dReform_read_40 (by decide) ?_
        refine ev_iadd dReform_read_41 ?_
        refine ev_putI hok fk_Reform_28 (woReform hw) (fun _ _ _ => rfl) rfl rfl dReform_read_42 ?_
        generalize eI12 : q_u I9 o 5 ((I9 o 5) + 1) = I12
        have H := H I12 eI12
        refine ev_iinc dReform_read_45 rfl (by decide) ?_
        refine ev_goto 11 dReform_read_48 (by decide) ?_
        exact ev_sub [(0, .ref o), (1, .ref x1), (2, .int ((x2 + Int32.ofInt 1)))] rfl H
      · have H := H.2 c11
        refine ev_iconst (0) dReform_read_33 (by decide) ?_
        exact ev_zret rfl (by decide) dReform_read_34 H
def fReform_read_0 (D : va_G) (cA : FieldType → ClassId) (b : Nat) (E : State → Prop) (o : Nat) (n : Nat) (sh : Nat → qC) (Rf : Nat → Nat → Option Nat) (I : Nat → Nat → Int32) (L : Nat → Nat → Int64) (post : Option Value → qS → Prop) (x1 : Nat) : Prop :=
  Ev (qGG D cA b E) mReform_clear 1 (0, 0) 0 (lv_args 0 [.ref o]) [] (n, sh, Rf, I, L) (fun v τ => ∃ (I3 : Nat → Nat → Int32) (L4 : Nat → Nat → Int64), v = none ∧ τ = (n, sh, Rf, I3, L4) ∧ Ev (qGG D cA b E) mTape_startReading 9 (0, 0) 0 (lv_args 0 [.ref x1, .int 0]) [] (n, sh, Rf, I3, L4) (fun v τ => ∃ (I7 : Nat → Nat → Int32) (L8 : Nat → Nat → Int64), v = none ∧ τ = (n, sh, Rf, I7, L8) ∧ Ev (qGG D cA b E) mReform_read 102 (0, 0) 11 [(0, .ref o), (1, .ref x1), (2, .int 0)] [] (n, sh, Rf, I7, L8) post))
set_option maxHeartbeats 4000000 in
set_option maxRecDepth 20000 in
theorem sReform_read_0 {D : va_G} {cA : FieldType → ClassId} {b : Nat} {E : State → Prop} (o : Nat) (n : Nat) (sh : Nat → qC) (Rf : Nat → Nat → Option Nat) (I : Nat → Nat → Int32) (L : Nat → Nat → Int64) (post : Option Value → qS → Prop) (x1 : Nat) (hok : q_ok (qGG D cA b E)) (hw : WfReform (qGG D cA b E) n sh Rf o) (hw1 : WfTape (qGG D cA b E) n sh Rf x1) (H : fReform_read_0 D cA b E o n sh Rf I L post x1) : Ev (qGG D cA b E) mReform_read 102 (0, 0) 0 [(0, .ref o), (1, .ref x1)] [] (n, sh, Rf, I, L) post := by
  unfold fReform_read_0 at H
  refine ev_aload_n dReform_read_0 rfl ?_
  refine ev_callV [] [] (B' := (0, 0)) (B'' := (0, 0)) hok mmReform_clear mk_Reform_52 (ci := 6) rfl rfl (woReform hw) rfl (Nat.le_of_ble_eq_true rfl) rfl (Nat.le_of_ble_eq_true rfl) dReform_read_1 rfl (by decide) H (fun v τ p1 => ?_)
  obtain ⟨I3, L4, rfl, rfl, H⟩ := p1
  refine ev_aload_n dReform_read_4 rfl ?_
  refine ev_iconst (0) dReform_read_5 (by decide) ?_
  refine ev_callV [.int 0] [] (B' := (0, 0)) (B'' := (0, 0)) hok mmTape_startReading mk_Reform_55 (ci := 8) rfl rfl (woTape hw1) rfl (Nat.le_of_ble_eq_true rfl) rfl (Nat.le_of_ble_eq_true rfl) dReform_read_6 rfl (by decide) H (fun v τ p5 => ?_)
  obtain ⟨I7, L8, rfl, rfl, H⟩ := p5
  refine ev_iconst (0) dReform_read_9 (by decide) ?_
  refine ev_istore_n dReform_read_10 (by decide) ?_
  exact ev_sub [(0, .ref o), (1, .ref x1), (2, .int 0)] rfl H
def fOffice_reform_83 (D : va_G) (cA : FieldType → ClassId) (b : Nat) (E : State → Prop) (o : Nat) (n : Nat) (sh : Nat → qC) (Rf : Nat → Nat → Option Nat) (I : Nat → Nat → Int32) (L : Nat → Nat → Int64) (post : Option Value → qS → Prop) (x1 : Int32) (x2 : Int32) (x3 : Int32) (x4 : Nat) (uo_4 : Nat) : Prop :=
  post (some (.int x3)) (n, sh, Rf, I, L)
set_option maxHeartbeats 4000000 in
set_option maxRecDepth 20000 in
theorem sOffice_reform_83 {D : va_G} {cA : FieldType → ClassId} {b : Nat} {E : State → Prop} (o : Nat) (n : Nat) (sh : Nat → qC) (Rf : Nat → Nat → Option Nat) (I : Nat → Nat → Int32) (L : Nat → Nat → Int64) (post : Option Value → qS → Prop) (x1 : Int32) (x2 : Int32) (x3 : Int32) (x4 : Nat) (uo_4 : Nat) (hok : q_ok (qGG D cA b E)) (hw : WfOffice (qGG D cA b E) n sh Rf o) (hwx4 : WfReform (qGG D cA b E) n sh Rf x4) (huo_4 : Rf o 4 = some uo_4) (hwuo_4 : WfReform (qGG D cA b E) n sh Rf uo_4) (H : fOffice_reform_83 D cA b E o n sh Rf I L post x1 x2 x3 x4 uo_4) : Ev (qGG D cA b E) mOffice_reform 103 (0, 0) 83 [(0, .ref o), (1, .int x1), (2, .int x2), (3, .int x3), (4, .ref x4)] [] (n, sh, Rf, I, L) post := by
  unfold fOffice_reform_83 at H
  refine ev_iload_n dOffice_reform_83 rfl ?_
  exact ev_iret rfl dOffice_reform_84 H
def fOffice_reform_77 (D : va_G) (cA : FieldType → ClassId) (b : Nat) (E : State → Prop) (o : Nat) (n : Nat) (sh : Nat → qC) (Rf : Nat → Nat → Option Nat) (I : Nat → Nat → Int32) (L : Nat → Nat → Int64) (post : Option Value → qS → Prop) (x1 : Int32) (x2 : Int32) (x3 : Int32) (x4 : Nat) (uo_4 : Nat) : Prop :=
  Ev (qGG D cA b E) mOffice_reform 103 (0, 0) 83 [(0, .ref o), (1, .int x1), (2, .int x2), (3, .int x3), (4, .ref x4)] [] (n, sh, q_u Rf o 4 (some x4), I, L) post
set_option maxHeartbeats 4000000 in
set_option maxRecDepth 20000 in
theorem sOffice_reform_77 {D : va_G} {cA : FieldType → ClassId} {b : Nat} {E : State → Prop} (o : Nat) (n : Nat) (sh : Nat → qC) (Rf : Nat → Nat → Option Nat) (I : Nat → Nat → Int32) (L : Nat → Nat → Int64) (post : Option Value → qS → Prop) (x1 : Int32) (x2 : Int32) (x3 : Int32) (x4 : Nat) (uo_4 : Nat) (hok : q_ok (qGG D cA b E)) (hw : WfOffice (qGG D cA b E) n sh Rf o) (hwx4 : WfReform (qGG D cA b E) n sh Rf x4) (huo_4 : Rf o 4 = some uo_4) (hwuo_4 : WfReform (qGG D cA b E) n sh Rf uo_4) (H : fOffice_reform_77 D cA b E o n sh Rf I L post x1 x2 x3 x4 uo_4) : Ev (qGG D cA b E) mOffice_reform 103 (0, 0) 77 [(0, .ref o), (1, .int x1), (2, .int x2), (3, .int x3), (4, .ref x4)] [] (n, sh, Rf, I, L) post := by
  unfold fOffice_reform_77 at H
  refine ev_aload_n dOffice_reform_77 rfl ?_
  refine ev_aload dOffice_reform_78 rfl ?_
  refine ev_putR hok fk_Office_33 (woOffice hw) (fun _ _ _ => rfl) rfl rfl dOffice_reform_80 ?_
  exact ev_sub [(0, .ref o), (1, .int x1), (2, .int x2), (3, .int x3), (4, .ref x4)] rfl H
def fOffice_reform_0 (D : va_G) (cA : FieldType → ClassId) (b : Nat) (E : State → Prop) (o : Nat) (n : Nat) (sh : Nat → qC) (Rf : Nat → Nat → Option Nat) (I : Nat → Nat → Int32) (L : Nat → Nat → Int64) (post : Option Value → qS → Prop) (x1 : Int32) (uo_4 : Nat) : Prop :=
  ((x1 < 0 → post (some (.int ((-2)))) (n, sh, Rf, I, L)) ∧ (¬ x1 < 0 → ((4 ≤ x1 → post (some (.int ((-2)))) (n, sh, Rf, I, L)) ∧ (¬ 4 ≤ x1 → (((I (o + 1) 6) ≤ 700 → Ev (qGG D cA b E) mReform_read 102 (0, 0) 0 (lv_args 0 [.ref uo_4, .ref ((o + 1))]) [] (n, sh, Rf, I, L) (fun v τ => ∃ (r5 : Int32) (I6 : Nat → Nat → Int32) (L7 : Nat → Nat → Int64), v = some (.int r5) ∧ τ = (n, sh, Rf, I6, L7) ∧ ∀ I8 : Nat → Nat → Int32, q_u I6 (o + 1) 6 0 = I8 → ((¬ r5 = 0 → vp_in x1 4 ∧ ∃ r10 : Nat, Rf (o + 40) (x1 : Int32).toNatClampNeg = some r10 ∧ WfReform (qGG D cA b E) n sh Rf r10 ∧ vp_in x1 4 ∧ Ev (qGG D cA b E) mOffice_reform 103 (0, 0) 77 [(0, .ref o), (1, .int x1), (2, .int r5), (3, .int ((I8 uo_4 5))), (4, .ref r10)] [] (n, sh, q_u Rf (o + 40) (x1 : Int32).toNatClampNeg (some uo_4), I8, L7) post) ∧ (r5 = 0 → post (some (.int ((-1)))) (n, sh, Rf, I8, L7))))) ∧ (¬ (I (o + 1) 6) ≤ 700 → post (some (.int ((-2)))) (n, sh, Rf, I, L)))))))
set_option maxHeartbeats 4000000 in
set_option maxRecDepth 20000 in
theorem sOffice_reform_0 {D : va_G} {cA : FieldType → ClassId} {b : Nat} {E : State → Prop} (o : Nat) (n : Nat) (sh : Nat → qC) (Rf : Nat → Nat → Option Nat) (I : Nat → Nat → Int32) (L : Nat → Nat → Int64) (post : Option Value → qS → Prop) (x1 : Int32) (uo_4 : Nat) (hok : q_ok (qGG D cA b E)) (hw : WfOffice (qGG D cA b E) n sh Rf o) (huo_4 : Rf o 4 = some uo_4) (hwuo_4 : WfReform (qGG D cA b E) n sh Rf uo_4) (H : fOffice_reform_0 D cA b E o n sh Rf I L post x1 uo_4) : Ev (qGG D cA b E) mOffice_reform 103 (0, 0) 0 [(0, .ref o), (1, .int x1)] [] (n, sh, Rf, I, L) post := by
  unfold fOffice_reform_0 at H
  refine ev_iload_n dOffice_reform_0 rfl ?_
  refine ev_if_lt 22 dOffice_reform_1 (by decide) (fun c1 => ?_) (fun c1 => ?_)
  · have H := H.1 c1
    refine ev_bipush (-2) dOffice_reform_22 (by decide) ?_
    exact ev_iret rfl dOffice_reform_24 H
  · have H := H.2 c1
    refine ev_iload_n dOffice_reform_4 rfl ?_
    refine ev_iconst (4) dOffice_reform_5 (by decide) ?_
    refine ev_icmp_ge 22 dOffice_reform_6 (by decide) (fun c2 => ?_) (fun c2 => ?_)
    · have H := H.1 c2
      refine ev_bipush (-2) dOffice_reform_22 (by decide) ?_
      exact ev_iret rfl dOffice_reform_24 H
    · have H := H.2 c2
      refine ev_aload_n dOffice_reform_9 rfl ?_
      refine ev_getR hok fk_Office_12 (woOffice hw) (fun _ _ _ => rfl) (wrOffice_0 hw) dOffice_reform_10 ?_
      refine ev_getI hok fk_Office_65 (woTape (wsOffice_0 hw)) (fun _ _ _ => rfl) dOffice_reform_13 ?_
      refine ev_sipush (700) dOffice_reform_16 (by decide) ?_
      refine ev_icmp_le 25 dOffice_reform_19 (by decide) (fun c3 => ?_) (fun c3 => ?_)
      · have H := H.1 c3
        refine ev_aload_n dOffice_reform_25 rfl ?_
        refine ev_getR hok fk_Office_33 (woOffice hw) (fun _ _ _ => rfl) huo_4 dOffice_reform_26 ?_
        refine ev_aload_n dOffice_reform_29 rfl ?_
        refine ev_getR hok fk_Office_12 (woOffice hw) (fun _ _ _ => rfl) (wrOffice_0 hw) dOffice_reform_30 ?_
        refine ev_callV [.ref ((o + 1))] [] (B' := (0, 0)) (B'' := (0, 0)) hok mmReform_read mk_Office_95 (ci := 6) rfl rfl (woReform hwuo_4) rfl (Nat.le_of_ble_eq_true rfl) rfl (Nat.le_of_ble_eq_true rfl) dOffice_reform_33 rfl (by decide) H (fun v τ p4 => ?_)
        obtain ⟨r5, I6, L7, rfl, rfl, H⟩ := p4
        refine ev_istore_n dOffice_reform_36 (by decide) ?_
        refine ev_aload_n dOffice_reform_37 rfl ?_
        refine ev_getR hok fk_Office_12 (woOffice hw) (fun _ _ _ => rfl) (wrOffice_0 hw) dOffice_reform_38 ?_
        refine ev_iconst (0) dOffice_reform_41 (by decide) ?_
        refine ev_putI hok fk_Office_65 (woTape (wsOffice_0 hw)) (fun _ _ _ => rfl) rfl rfl dOffice_reform_42 ?_
        generalize eI8 : q_u I6 (o + 1) 6 0 = I8
        have H := H I8 eI8
        refine ev_iload_n dOffice_reform_45 rfl ?_
        refine ev_if_ne 51 dOffice_reform_46 (by decide) (fun c9 => ?_) (fun c9 => ?_)
        · have H := H.1 c9
          refine ev_aload_n dOffice_reform_51 rfl ?_
          refine ev_getR hok fk_Office_33 (woOffice hw) (fun _ _ _ => rfl) huo_4 dOffice_reform_52 ?_
          refine ev_getI hok fk_Office_96 (woReform hwuo_4) (fun _ _ _ => rfl) dOffice_reform_55 ?_
          refine ev_istore_n dOffice_reform_58 (by decide) ?_
          refine ev_aload_n dOffice_reform_59 rfl ?_
          refine ev_getR hok fk_Office_28 (woOffice hw) (fun _ _ _ => rfl) (wrOffice_3 hw) dOffice_reform_60 ?_
          refine ev_iload_n dOffice_reform_63 rfl ?_
          obtain ⟨h11, r10, er10, hwr10, H⟩ := H
          refine ev_aald (C := "SaltOffice$Reform") (.ref r10) (show FieldType.object "SaltOffice$Reform" ∈ qtl by decide) (waOffice_3 hw) h11 (by rw [er10]; rfl) dOffice_reform_64 ?_
          refine ev_astore dOffice_reform_65 (by decide) ?_
          refine ev_aload_n dOffice_reform_67 rfl ?_
          refine ev_getR hok fk_Office_28 (woOffice hw) (fun _ _ _ => rfl) (wrOffice_3 hw) dOffice_reform_68 ?_
          refine ev_iload_n dOffice_reform_71 rfl ?_
          refine ev_aload_n dOffice_reform_72 rfl ?_
          refine ev_getR hok fk_Office_33 (woOffice hw) (fun _ _ _ => rfl) huo_4 dOffice_reform_73 ?_
          obtain ⟨h12, H⟩ := H
          refine ev_aast (ci := 6) rfl (show FieldType.object "SaltOffice$Reform" ∈ qtl by decide) (waOffice_3 hw) (woReform hwuo_4) h12 dOffice_reform_76 ?_
          exact ev_sub [(0, .ref o), (1, .int x1), (2, .int r5), (3, .int ((I8 uo_4 5))), (4, .ref r10)] rfl H
        · have H := H.2 c9
          refine ev_iconst (-1) dOffice_reform_49 (by decide) ?_
          exact ev_iret rfl dOffice_reform_50 H
      · have H := H.2 c3
        refine ev_bipush (-2) dOffice_reform_22 (by decide) ?_
        exact ev_iret rfl dOffice_reform_24 H
