/-! Walks of the class: by program. -/
def fArrays_fill_53178_5 (D : va_G) (cA : FieldType → ClassId) (b : Nat) (E : State → Prop) (n : Nat) (sh : Nat → qC) (Rf : Nat → Nat → Option Nat) (I : Nat → Nat → Int32) (L : Nat → Nat → Int64) (post : Option Value → qS → Prop) (x0 : Nat) (x1 : Int32) (x2 : Int32) (x3 : Int32) (w0 : Nat) : Prop :=
  ((x3 ≤ x2 → post none (n, sh, Rf, I, L)) ∧ (¬ x3 ≤ x2 → vp_in x2 w0 ∧ ∀ I2 : Nat → Nat → Int32, q_u I x0 (x2 : Int32).toNatClampNeg x1 = I2 → Ev (qGG D cA b E) mArrays_fill_53178 0 (0, 0) 5 [(0, .ref x0), (1, .int x1), (2, .int ((x2 + Int32.ofInt 1))), (3, .int x3)] [] (n, sh, Rf, I2, L) post))
set_option maxHeartbeats 4000000 in
set_option maxRecDepth 20000 in
theorem sArrays_fill_53178_5 {D : va_G} {cA : FieldType → ClassId} {b : Nat} {E : State → Prop} (n : Nat) (sh : Nat → qC) (Rf : Nat → Nat → Option Nat) (I : Nat → Nat → Int32) (L : Nat → Nat → Int64) (post : Option Value → qS → Prop) (x0 : Nat) (x1 : Int32) (x2 : Int32) (x3 : Int32) (w0 : Nat) (hok : q_ok (qGG D cA b E)) (hw0 : q_in (qGG D cA b E) (n, sh, Rf, I, L) x0 (.inl (.int, w0))) (H : fArrays_fill_53178_5 D cA b E n sh Rf I L post x0 x1 x2 x3 w0) : Ev (qGG D cA b E) mArrays_fill_53178 0 (0, 0) 5 [(0, .ref x0), (1, .int x1), (2, .int x2), (3, .int x3)] [] (n, sh, Rf, I, L) post := by
  unfold fArrays_fill_53178_5 at H
  refine ev_iload_n dArrays_fill_53178_5 rfl ?_
  refine ev_iload_n dArrays_fill_53178_6 rfl ?_
  refine ev_icmp_ge 20 dArrays_fill_53178_7 (by decide) (fun c1 => ?_) (fun c1 => ?_)
  · have H := H.1 c1
    exact ev_vret rfl dArrays_fill_53178_20 H
  · have H := H.2 c1
    refine ev_aload_n dArrays_fill_53178_10 rfl ?_
    refine ev_iload_n dArrays_fill_53178_11 rfl ?_
    refine ev_iload_n dArrays_fill_53178_12 rfl ?_
    obtain ⟨h3, H⟩ := H
    refine ev_iast hok hw0 h3 dArrays_fill_53178_13 ?_
    generalize eI2 : q_u I x0 (x2 : Int32).toNatClampNeg x1 = I2
    have H := H I2 eI2
    refine ev_iinc dArrays_fill_53178_14 rfl (by decide) ?_
    refine ev_goto 5 dArrays_fill_53178_17 (by decide) ?_
    exact ev_sub [(0, .ref x0), (1, .int x1), (2, .int ((x2 + Int32.ofInt 1))), (3, .int x3)] rfl H
def fArrays_fill_53178_0 (D : va_G) (cA : FieldType → ClassId) (b : Nat) (E : State → Prop) (n : Nat) (sh : Nat → qC) (Rf : Nat → Nat → Option Nat) (I : Nat → Nat → Int32) (L : Nat → Nat → Int64) (post : Option Value → qS → Prop) (x0 : Nat) (x1 : Int32) (w0 : Nat) : Prop :=
  Ev (qGG D cA b E) mArrays_fill_53178 0 (0, 0) 5 [(0, .ref x0), (1, .int x1), (2, .int 0), (3, .int ((Int32.ofNat w0)))] [] (n, sh, Rf, I, L) post
set_option maxHeartbeats 4000000 in
set_option maxRecDepth 20000 in
theorem sArrays_fill_53178_0 {D : va_G} {cA : FieldType → ClassId} {b : Nat} {E : State → Prop} (n : Nat) (sh : Nat → qC) (Rf : Nat → Nat → Option Nat) (I : Nat → Nat → Int32) (L : Nat → Nat → Int64) (post : Option Value → qS → Prop) (x0 : Nat) (x1 : Int32) (w0 : Nat) (hok : q_ok (qGG D cA b E)) (hw0 : q_in (qGG D cA b E) (n, sh, Rf, I, L) x0 (.inl (.int, w0))) (H : fArrays_fill_53178_0 D cA b E n sh Rf I L post x0 x1 w0) : Ev (qGG D cA b E) mArrays_fill_53178 0 (0, 0) 0 [(0, .ref x0), (1, .int x1)] [] (n, sh, Rf, I, L) post := by
  unfold fArrays_fill_53178_0 at H
  refine ev_iconst (0) dArrays_fill_53178_0 (by decide) ?_
  refine ev_istore_n dArrays_fill_53178_1 (by decide) ?_
  refine ev_aload_n dArrays_fill_53178_2 rfl ?_
  refine ev_alen (Int32.ofNat w0) (show FieldType.int ∈ qtl by decide) hw0 rfl dArrays_fill_53178_3 ?_
  refine ev_istore_n dArrays_fill_53178_4 (by decide) ?_
  exact ev_sub [(0, .ref x0), (1, .int x1), (2, .int 0), (3, .int ((Int32.ofNat w0)))] rfl H
def fArrays_fill_d0a16_6 (D : va_G) (cA : FieldType → ClassId) (b : Nat) (E : State → Prop) (n : Nat) (sh : Nat → qC) (Rf : Nat → Nat → Option Nat) (I : Nat → Nat → Int32) (L : Nat → Nat → Int64) (post : Option Value → qS → Prop) (x0 : Nat) (x1 : Int64) (x3 : Int32) (x4 : Int32) (w0 : Nat) : Prop :=
  ((x4 ≤ x3 → post none (n, sh, Rf, I, L)) ∧ (¬ x4 ≤ x3 → vp_in x3 w0 ∧ ∀ L2 : Nat → Nat → Int64, q_u L x0 (x3 : Int32).toNatClampNeg x1 = L2 → Ev (qGG D cA b E) mArrays_fill_d0a16 0 (0, 0) 6 [(0, .ref x0), (1, .long x1), (3, .int ((x3 + Int32.ofInt 1))), (4, .int x4)] [] (n, sh, Rf, I, L2) post))
set_option maxHeartbeats 4000000 in
set_option maxRecDepth 20000 in
theorem sArrays_fill_d0a16_6 {D : va_G} {cA : FieldType → ClassId} {b : Nat} {E : State → Prop} (n : Nat) (sh : Nat → qC) (Rf : Nat → Nat → Option Nat) (I : Nat → Nat → Int32) (L : Nat → Nat → Int64) (post : Option Value → qS → Prop) (x0 : Nat) (x1 : Int64) (x3 : Int32) (x4 : Int32) (w0 : Nat) (hok : q_ok (qGG D cA b E)) (hw0 : q_in (qGG D cA b E) (n, sh, Rf, I, L) x0 (.inl (.long, w0))) (H : fArrays_fill_d0a16_6 D cA b E n sh Rf I L post x0 x1 x3 x4 w0) : Ev (qGG D cA b E) mArrays_fill_d0a16 0 (0, 0) 6 [(0, .ref x0), (1, .long x1), (3, .int x3), (4, .int x4)] [] (n, sh, Rf, I, L) post := by
  unfold fArrays_fill_d0a16_6 at H
  refine ev_iload_n dArrays_fill_d0a16_6 rfl ?_
  refine ev_iload dArrays_fill_d0a16_7 rfl ?_
  refine ev_icmp_ge 22 dArrays_fill_d0a16_9 (by decide) (fun c1 => ?_) (fun c1 => ?_)
  · have H := H.1 c1
    exact ev_vret rfl dArrays_fill_d0a16_22 H
  · have H := H.2 c1
    refine ev_aload_n dArrays_fill_d0a16_12 rfl ?_
    refine ev_iload_n dArrays_fill_d0a16_13 rfl ?_
    refine ev_lload_n dArrays_fill_d0a16_14 rfl ?_
    obtain ⟨h3, H⟩ := H
    refine ev_last hok hw0 h3 dArrays_fill_d0a16_15 ?_
    generalize eL2 : q_u L x0 (x3 : Int32).toNatClampNeg x1 = L2
    have H := H L2 eL2
    refine ev_iinc dArrays_fill_d0a16_16 rfl (by decide) ?_
    refine ev_goto 6 dArrays_fill_d0a16_19 (by decide) ?_
    exact ev_sub [(0, .ref x0), (1, .long x1), (3, .int ((x3 + Int32.ofInt 1))), (4, .int x4)] rfl H
def fArrays_fill_d0a16_0 (D : va_G) (cA : FieldType → ClassId) (b : Nat) (E : State → Prop) (n : Nat) (sh : Nat → qC) (Rf : Nat → Nat → Option Nat) (I : Nat → Nat → Int32) (L : Nat → Nat → Int64) (post : Option Value → qS → Prop) (x0 : Nat) (x1 : Int64) (w0 : Nat) : Prop :=
  Ev (qGG D cA b E) mArrays_fill_d0a16 0 (0, 0) 6 [(0, .ref x0), (1, .long x1), (3, .int 0), (4, .int ((Int32.ofNat w0)))] [] (n, sh, Rf, I, L) post
set_option maxHeartbeats 4000000 in
set_option maxRecDepth 20000 in
theorem sArrays_fill_d0a16_0 {D : va_G} {cA : FieldType → ClassId} {b : Nat} {E : State → Prop} (n : Nat) (sh : Nat → qC) (Rf : Nat → Nat → Option Nat) (I : Nat → Nat → Int32) (L : Nat → Nat → Int64) (post : Option Value → qS → Prop) (x0 : Nat) (x1 : Int64) (w0 : Nat) (hok : q_ok (qGG D cA b E)) (hw0 : q_in (qGG D cA b E) (n, sh, Rf, I, L) x0 (.inl (.long, w0))) (H : fArrays_fill_d0a16_0 D cA b E n sh Rf I L post x0 x1 w0) : Ev (qGG D cA b E) mArrays_fill_d0a16 0 (0, 0) 0 [(0, .ref x0), (1, .long x1)] [] (n, sh, Rf, I, L) post := by
  unfold fArrays_fill_d0a16_0 at H
  refine ev_iconst (0) dArrays_fill_d0a16_0 (by decide) ?_
  refine ev_istore_n dArrays_fill_d0a16_1 (by decide) ?_
  refine ev_aload_n dArrays_fill_d0a16_2 rfl ?_
  refine ev_alen (Int32.ofNat w0) (show FieldType.long ∈ qtl by decide) hw0 rfl dArrays_fill_d0a16_3 ?_
  refine ev_istore dArrays_fill_d0a16_4 (by decide) ?_
  exact ev_sub [(0, .ref x0), (1, .long x1), (3, .int 0), (4, .int ((Int32.ofNat w0)))] rfl H
def fFacts_add_0 (D : va_G) (cA : FieldType → ClassId) (b : Nat) (E : State → Prop) (o : Nat) (n : Nat) (sh : Nat → qC) (Rf : Nat → Nat → Option Nat) (I : Nat → Nat → Int32) (L : Nat → Nat → Int64) (post : Option Value → qS → Prop) (x1 : Int32) (x2 : Int32) (x3 : Int32) (x4 : Int32) (x5 : Int32) : Prop :=
  (((I o 6) < 40 → vp_in (I o 6) 40 ∧ ∀ I2 : Nat → Nat → Int32, q_u I (o + 1) ((I o 6) : Int32).toNatClampNeg x1 = I2 → vp_in (I2 o 6) 40 ∧ ∀ I4 : Nat → Nat → Int32, q_u I2 (o + 2) ((I2 o 6) : Int32).toNatClampNeg x2 = I4 → vp_in (I4 o 6) 40 ∧ ∀ I6 : Nat → Nat → Int32, q_u I4 (o + 3) ((I4 o 6) : Int32).toNatClampNeg x3 = I6 → vp_in (I6 o 6) 40 ∧ ∀ I8 : Nat → Nat → Int32, q_u I6 (o + 4) ((I6 o 6) : Int32).toNatClampNeg x4 = I8 → vp_in (I8 o 6) 40 ∧ ∀ I10 : Nat → Nat → Int32, q_u I8 (o + 5) ((I8 o 6) : Int32).toNatClampNeg x5 = I10 → vp_in (I10 o 6) 40 ∧ ∀ I12 : Nat → Nat → Int32, q_u I10 (o + 6) ((I10 o 6) : Int32).toNatClampNeg (-1) = I12 → ∀ I14 : Nat → Nat → Int32, q_u I12 o 6 ((I12 o 6) + 1) = I14 → post (some (.int (((I14 o 6) - 1)))) (n, sh, Rf, I14, L)) ∧ (¬ (I o 6) < 40 → post (some (.int ((-1)))) (n, sh, Rf, I, L)))
set_option maxHeartbeats 4000000 in
set_option maxRecDepth 20000 in
theorem sFacts_add_0 {D : va_G} {cA : FieldType → ClassId} {b : Nat} {E : State → Prop} (o : Nat) (n : Nat) (sh : Nat → qC) (Rf : Nat → Nat → Option Nat) (I : Nat → Nat → Int32) (L : Nat → Nat → Int64) (post : Option Value → qS → Prop) (x1 : Int32) (x2 : Int32) (x3 : Int32) (x4 : Int32) (x5 : Int32) (hok : q_ok (qGG D cA b E)) (hw : WfFacts (qGG D cA b E) n sh Rf o) (H : fFacts_add_0 D cA b E o n sh Rf I L post x1 x2 x3 x4 x5) : Ev (qGG D cA b E) mFacts_add 0 (0, 0) 0 [(0, .ref o), (1, .int x1), (2, .int x2), (3, .int x3), (4, .int x4), (5, .int x5)] [] (n, sh, Rf, I, L) post := by
  unfold fFacts_add_0 at H
  refine ev_aload_n dFacts_add_0 rfl ?_
  refine ev_getI hok fk_Facts_30 (woFacts hw) (fun _ _ _ => rfl) dFacts_add_1 ?_
  refine ev_bipush (40) dFacts_add_4 (by decide) ?_
  refine ev_icmp_lt 11 dFacts_add_6 (by decide) (fun c1 => ?_) (fun c1 => ?_)
  · have H := H.1 c1
    refine ev_aload_n dFacts_add_11 rfl ?_
    refine ev_getR hok fk_Facts_9 (woFacts hw) (fun _ _ _ => rfl) (wrFacts_0 hw) dFacts_add_12 ?_
    refine ev_aload_n dFacts_add_15 rfl ?_
    refine ev_getI hok fk_Facts_30 (woFacts hw) (fun _ _ _ => rfl) dFacts_add_16 ?_
    refine ev_iload_n dFacts_add_19 rfl ?_
    obtain ⟨h3, H⟩ := H
    refine ev_iast hok (waFacts_0 hw) h3 dFacts_add_20 ?_
    generalize eI2 : q_u I (o + 1) ((I o 6) : Int32).toNatClampNeg x1 = I2
    have H := H I2 eI2
    refine ev_aload_n dFacts_add_21 rfl ?_
    refine ev_getR hok fk_Facts_15 (woFacts hw) (fun _ _ _ => rfl) (wrFacts_1 hw) dFacts_add_22 ?_
    refine ev_aload_n dFacts_add_25 rfl ?_
    refine ev_getI hok fk_Facts_30 (woFacts hw) (fun _ _ _ => rfl) dFacts_add_26 ?_
    refine ev_iload_n dFacts_add_29 rfl ?_
    obtain ⟨h5, H⟩ := H
    refine ev_iast hok (waFacts_1 hw) h5 dFacts_add_30 ?_
    generalize eI4 : q_u I2 (o + 2) ((I2 o 6) : Int32).toNatClampNeg x2 = I4
    have H := H I4 eI4
    refine ev_aload_n dFacts_add_31 rfl ?_
    refine ev_getR hok fk_Facts_18 (woFacts hw) (fun _ _ _ => rfl) (wrFacts_2 hw) dFacts_add_32 ?_
    refine ev_aload_n dFacts_add_35 rfl ?_
    refine ev_getI hok fk_Facts_30 (woFacts hw) (fun _ _ _ => rfl) dFacts_add_36 ?_
    refine ev_iload_n dFacts_add_39 rfl ?_
    obtain ⟨h7, H⟩ := H
    refine ev_iast hok (waFacts_2 hw) h7 dFacts_add_40 ?_
    generalize eI6 : q_u I4 (o + 3) ((I4 o 6) : Int32).toNatClampNeg x3 = I6
    have H := H I6 eI6
    refine ev_aload_n dFacts_add_41 rfl ?_
    refine ev_getR hok fk_Facts_21 (woFacts hw) (fun _ _ _ => rfl) (wrFacts_3 hw) dFacts_add_42 ?_
    refine ev_aload_n dFacts_add_45 rfl ?_
    refine ev_getI hok fk_Facts_30 (woFacts hw) (fun _ _ _ => rfl) dFacts_add_46 ?_
    refine ev_iload dFacts_add_49 rfl ?_
    obtain ⟨h9, H⟩ := H
    refine ev_iast hok (waFacts_3 hw) h9 dFacts_add_51 ?_
    generalize eI8 : q_u I6 (o + 4) ((I6 o 6) : Int32).toNatClampNeg x4 = I8
    have H := H I8 eI8
    refine ev_aload_n dFacts_add_52 rfl ?_
    refine ev_getR hok fk_Facts_24 (woFacts hw) (fun _ _ _ => rfl) (wrFacts_4 hw) dFacts_add_53 ?_
    refine ev_aload_n dFacts_add_56 rfl ?_
    refine ev_getI hok fk_Facts_30 (woFacts hw) (fun _ _ _ => rfl) dFacts_add_57 ?_
    refine ev_iload dFacts_add_60 rfl ?_
    obtain ⟨h11, H⟩ := H
    refine ev_iast hok (waFacts_4 hw) h11 dFacts_add_62 ?_
    generalize eI10 : q_u I8 (o + 5) ((I8 o 6) : Int32).toNatClampNeg x5 = I10
    have H := H I10 eI10
    refine ev_aload_n dFacts_add_63 rfl ?_
    refine ev_getR hok fk_Facts_27 (woFacts hw) (fun _ _ _ => rfl) (wrFacts_5 hw) dFacts_add_64 ?_
    refine ev_aload_n dFacts_add_67 rfl ?_
    refine ev_getI hok fk_Facts_30 (woFacts hw) (fun _ _ _ => rfl) dFacts_add_68 ?_
    refine ev_iconst (-1) dFacts_add_71 (by decide) ?_
    obtain ⟨h13, H⟩ := H
    refine ev_iast hok (waFacts_5 hw) h13 dFacts_add_72 ?_
    generalize eI12 : q_u I10 (o + 6) ((I10 o 6) : Int32).toNatClampNeg (-1) = I12
    have H := H I12 eI12
    refine ev_aload_n dFacts_add_73 rfl ?_
    refine ev_dup dFacts_add_74 rfl ?_
    refine ev_getI hok fk_Facts_30 (woFacts hw) (fun _ _ _ => rfl) dFacts_add_75 ?_
    refine ev_iconst (1) dFacts_add_78 (by decide) ?_
    refine ev_iadd dFacts_add_79 ?_
    refine ev_putI hok fk_Facts_30 (woFacts hw) (fun _ _ _ => rfl) rfl rfl dFacts_add_80 ?_
    generalize eI14 : q_u I12 o 6 ((I12 o 6) + 1) = I14
    have H := H I14 eI14
    refine ev_aload_n dFacts_add_83 rfl ?_
    refine ev_getI hok fk_Facts_30 (woFacts hw) (fun _ _ _ => rfl) dFacts_add_84 ?_
    refine ev_iconst (1) dFacts_add_87 (by decide) ?_
    refine ev_isub dFacts_add_88 ?_
    exact ev_iret rfl dFacts_add_89 H
  · have H := H.2 c1
    refine ev_iconst (-1) dFacts_add_9 (by decide) ?_
    exact ev_iret rfl dFacts_add_10 H
def fFacts_isKnown_40 (D : va_G) (cA : FieldType → ClassId) (b : Nat) (E : State → Prop) (o : Nat) (n : Nat) (sh : Nat → qC) (Rf : Nat → Nat → Option Nat) (I : Nat → Nat → Int32) (L : Nat → Nat → Int64) (post : Option Value → qS → Prop) (x1 : Int32) (x2 : Int32) (x3 : Int32) : Prop :=
  post (some (.int 1)) (n, sh, Rf, I, L)
set_option maxHeartbeats 4000000 in
set_option maxRecDepth 20000 in
theorem sFacts_isKnown_40 {D : va_G} {cA : FieldType → ClassId} {b : Nat} {E : State → Prop} (o : Nat) (n : Nat) (sh : Nat → qC) (Rf : Nat → Nat → Option Nat) (I : Nat → Nat → Int32) (L : Nat → Nat → Int64) (post : Option Value → qS → Prop) (x1 : Int32) (x2 : Int32) (x3 : Int32) (hok : q_ok (qGG D cA b E)) (hw : WfFacts (qGG D cA b E) n sh Rf o) (H : fFacts_isKnown_40 D cA b E o n sh Rf I L post x1 x2 x3) : Ev (qGG D cA b E) mFacts_isKnown 0 (0, 0) 40 [(0, .ref o), (1, .int x1), (2, .int x2), (3, .int x3)] [] (n, sh, Rf, I, L) post := by
  unfold fFacts_isKnown_40 at H
  refine ev_iconst (1) dFacts_isKnown_40 (by decide) ?_
  refine ev_goto 45 dFacts_isKnown_41 (by decide) ?_
  exact ev_zret rfl (by decide) dFacts_isKnown_45 H
def fFacts_isKnown_0 (D : va_G) (cA : FieldType → ClassId) (b : Nat) (E : State → Prop) (o : Nat) (n : Nat) (sh : Nat → qC) (Rf : Nat → Nat → Option Nat) (I : Nat → Nat → Int32) (L : Nat → Nat → Int64) (post : Option Value → qS → Prop) (x1 : Int32) (x2 : Int32) (x3 : Int32) : Prop :=
  vp_in x1 40 ∧ ((¬ (I (o + 1) (x1 : Int32).toNatClampNeg) = x2 → post (some (.int 0)) (n, sh, Rf, I, L)) ∧ ((I (o + 1) (x1 : Int32).toNatClampNeg) = x2 → vp_in x1 40 ∧ ((x3 < (I (o + 5) (x1 : Int32).toNatClampNeg) → post (some (.int 0)) (n, sh, Rf, I, L)) ∧ (¬ x3 < (I (o + 5) (x1 : Int32).toNatClampNeg) → vp_in x1 40 ∧ (((I (o + 6) (x1 : Int32).toNatClampNeg) = (-1) → fFacts_isKnown_40 D cA b E o n sh Rf I L post x1 x2 x3) ∧ (¬ (I (o + 6) (x1 : Int32).toNatClampNeg) = (-1) → vp_in x1 40 ∧ (((I (o + 6) (x1 : Int32).toNatClampNeg) ≤ x3 → post (some (.int 0)) (n, sh, Rf, I, L)) ∧ (¬ (I (o + 6) (x1 : Int32).toNatClampNeg) ≤ x3 → fFacts_isKnown_40 D cA b E o n sh Rf I L post x1 x2 x3))))))))
set_option maxHeartbeats 4000000 in
set_option maxRecDepth 20000 in
theorem sFacts_isKnown_0 {D : va_G} {cA : FieldType → ClassId} {b : Nat} {E : State → Prop} (o : Nat) (n : Nat) (sh : Nat → qC) (Rf : Nat → Nat → Option Nat) (I : Nat → Nat → Int32) (L : Nat → Nat → Int64) (post : Option Value → qS → Prop) (x1 : Int32) (x2 : Int32) (x3 : Int32) (hok : q_ok (qGG D cA b E)) (hw : WfFacts (qGG D cA b E) n sh Rf o) (H : fFacts_isKnown_0 D cA b E o n sh Rf I L post x1 x2 x3) : Ev (qGG D cA b E) mFacts_isKnown 0 (0, 0) 0 [(0, .ref o), (1, .int x1), (2, .int x2), (3, .int x3)] [] (n, sh, Rf, I, L) post := by
  unfold fFacts_isKnown_0 at H
  refine ev_aload_n dFacts_isKnown_0 rfl ?_
  refine ev_getR hok fk_Facts_9 (woFacts hw) (fun _ _ _ => rfl) (wrFacts_0 hw) dFacts_isKnown_1 ?_
  refine ev_iload_n dFacts_isKnown_4 rfl ?_
  obtain ⟨h1, H⟩ := H
  refine ev_iald hok (waFacts_0 hw) h1 dFacts_isKnown_5 ?_
  refine ev_iload_n dFacts_isKnown_6 rfl ?_
  refine ev_icmp_ne 44 dFacts_isKnown_7 (by decide) (fun c2 => ?_) (fun c2 => ?_)
  · have H := H.1 c2
    refine ev_iconst (0) dFacts_isKnown_44 (by decide) ?_
    exact ev_zret rfl (by decide) dFacts_isKnown_45 H
  · have H := H.2 c2
    refine ev_aload_n dFacts_isKnown_10 rfl ?_
    refine ev_getR hok fk_Facts_24 (woFacts hw) (fun _ _ _ => rfl) (wrFacts_4 hw) dFacts_isKnown_11 ?_
    refine ev_iload_n dFacts_isKnown_14 rfl ?_
    obtain ⟨h3, H⟩ := H
    refine ev_iald hok (waFacts_4 hw) h3 dFacts_isKnown_15 ?_
    refine ev_iload_n dFacts_isKnown_16 rfl ?_
    refine ev_icmp_gt 44 dFacts_isKnown_17 (by decide) (fun c4 => ?_) (fun c4 => ?_)
    · have H := H.1 c4
      refine ev_iconst (0) dFacts_isKnown_44 (by decide) ?_
      exact ev_zret rfl (by decide) dFacts_isKnown_45 H
    · have H := H.2 c4
      refine ev_aload_n dFacts_isKnown_20 rfl ?_
      refine ev_getR hok fk_Facts_27 (woFacts hw) (fun _ _ _ => rfl) (wrFacts_5 hw) dFacts_isKnown_21 ?_
      refine ev_iload_n dFacts_isKnown_24 rfl ?_
      obtain ⟨h5, H⟩ := H
      refine ev_iald hok (waFacts_5 hw) h5 dFacts_isKnown_25 ?_
      refine ev_iconst (-1) dFacts_isKnown_26 (by decide) ?_
      refine ev_icmp_eq 40 dFacts_isKnown_27 (by decide) (fun c6 => ?_) (fun c6 => ?_)
      · have H := H.1 c6
        exact ev_sub [(0, .ref o), (1, .int x1), (2, .int x2), (3, .int x3)] rfl (sFacts_isKnown_40 o n sh Rf I L post x1 x2 x3 hok hw H)
      · have H := H.2 c6
        refine ev_aload_n dFacts_isKnown_30 rfl ?_
        refine ev_getR hok fk_Facts_27 (woFacts hw) (fun _ _ _ => rfl) (wrFacts_5 hw) dFacts_isKnown_31 ?_
        refine ev_iload_n dFacts_isKnown_34 rfl ?_
        obtain ⟨h7, H⟩ := H
        refine ev_iald hok (waFacts_5 hw) h7 dFacts_isKnown_35 ?_
        refine ev_iload_n dFacts_isKnown_36 rfl ?_
        refine ev_icmp_le 44 dFacts_isKnown_37 (by decide) (fun c8 => ?_) (fun c8 => ?_)
        · have H := H.1 c8
          refine ev_iconst (0) dFacts_isKnown_44 (by decide) ?_
          exact ev_zret rfl (by decide) dFacts_isKnown_45 H
        · have H := H.2 c8
          exact ev_sub [(0, .ref o), (1, .int x1), (2, .int x2), (3, .int x3)] rfl (sFacts_isKnown_40 o n sh Rf I L post x1 x2 x3 hok hw H)
def fLand_daysBetween_0 (D : va_G) (cA : FieldType → ClassId) (b : Nat) (E : State → Prop) (o : Nat) (n : Nat) (sh : Nat → qC) (Rf : Nat → Nat → Option Nat) (I : Nat → Nat → Int32) (L : Nat → Nat → Int64) (post : Option Value → qS → Prop) (x1 : Int32) (x2 : Int32) : Prop :=
  ((x1 < 0 → post (some (.int ((-1)))) (n, sh, Rf, I, L)) ∧ (¬ x1 < 0 → ((16 ≤ x1 → post (some (.int ((-1)))) (n, sh, Rf, I, L)) ∧ (¬ 16 ≤ x1 → ((x2 < 0 → post (some (.int ((-1)))) (n, sh, Rf, I, L)) ∧ (¬ x2 < 0 → ((x2 < 16 → vp_in ((x1 * 16) + x2) 256 ∧ post (some (.int ((I (o + 2) (((x1 * 16) + x2) : Int32).toNatClampNeg)))) (n, sh, Rf, I, L)) ∧ (¬ x2 < 16 → post (some (.int ((-1)))) (n, sh, Rf, I, L)))))))))
set_option maxHeartbeats 4000000 in
set_option maxRecDepth 20000 in
theorem sLand_daysBetween_0 {D : va_G} {cA : FieldType → ClassId} {b : Nat} {E : State → Prop} (o : Nat) (n : Nat) (sh : Nat → qC) (Rf : Nat → Nat → Option Nat) (I : Nat → Nat → Int32) (L : Nat → Nat → Int64) (post : Option Value → qS → Prop) (x1 : Int32) (x2 : Int32) (hok : q_ok (qGG D cA b E)) (hw : WfLand (qGG D cA b E) n sh Rf o) (H : fLand_daysBetween_0 D cA b E o n sh Rf I L post x1 x2) : Ev (qGG D cA b E) mLand_daysBetween 0 (0, 0) 0 [(0, .ref o), (1, .int x1), (2, .int x2)] [] (n, sh, Rf, I, L) post := by
  unfold fLand_daysBetween_0 at H
  refine ev_iload_n dLand_daysBetween_0 rfl ?_
  refine ev_if_lt 20 dLand_daysBetween_1 (by decide) (fun c1 => ?_) (fun c1 => ?_)
  · have H := H.1 c1
    refine ev_iconst (-1) dLand_daysBetween_20 (by decide) ?_
    exact ev_iret rfl dLand_daysBetween_21 H
  · have H := H.2 c1
    refine ev_iload_n dLand_daysBetween_4 rfl ?_
    refine ev_bipush (16) dLand_daysBetween_5 (by decide) ?_
    refine ev_icmp_ge 20 dLand_daysBetween_7 (by decide) (fun c2 => ?_) (fun c2 => ?_)
    · have H := H.1 c2
      refine ev_iconst (-1) dLand_daysBetween_20 (by decide) ?_
      exact ev_iret rfl dLand_daysBetween_21 H
    · have H := H.2 c2
      refine ev_iload_n dLand_daysBetween_10 rfl ?_
      refine ev_if_lt 20 dLand_daysBetween_11 (by decide) (fun c3 => ?_) (fun c3 => ?_)
      · have H := H.1 c3
        refine ev_iconst (-1) dLand_daysBetween_20 (by decide) ?_
        exact ev_iret rfl dLand_daysBetween_21 H
      · have H := H.2 c3
        refine ev_iload_n dLand_daysBetween_14 rfl ?_
        refine ev_bipush (16) dLand_daysBetween_15 (by decide) ?_
        refine ev_icmp_lt 22 dLand_daysBetween_17 (by decide) (fun c4 => ?_) (fun c4 => ?_)
        · have H := H.1 c4
          refine ev_aload_n dLand_daysBetween_22 rfl ?_
          refine ev_getR hok fk_Land_31 (woLand hw) (fun _ _ _ => rfl) (wrLand_6 hw) dLand_daysBetween_23 ?_
          refine ev_iload_n dLand_daysBetween_26 rfl ?_
          refine ev_bipush (16) dLand_daysBetween_27 (by decide) ?_
          refine ev_imul dLand_daysBetween_29 ?_
          refine ev_iload_n dLand_daysBetween_30 rfl ?_
          refine ev_iadd dLand_daysBetween_31 ?_
          obtain ⟨h5, H⟩ := H
          refine ev_iald hok (waLand_6 hw) h5 dLand_daysBetween_32 ?_
          exact ev_iret rfl dLand_daysBetween_33 H
        · have H := H.2 c4
          refine ev_iconst (-1) dLand_daysBetween_20 (by decide) ?_
          exact ev_iret rfl dLand_daysBetween_21 H
def fLand_serves_0 (D : va_G) (cA : FieldType → ClassId) (b : Nat) (E : State → Prop) (o : Nat) (n : Nat) (sh : Nat → qC) (Rf : Nat → Nat → Option Nat) (I : Nat → Nat → Int32) (L : Nat → Nat → Int64) (post : Option Value → qS → Prop) (x1 : Int32) (x2 : Int32) : Prop :=
  ((x2 < 0 → post (some (.int 0)) (n, sh, Rf, I, L)) ∧ (¬ x2 < 0 → ((5 ≤ x2 → post (some (.int 0)) (n, sh, Rf, I, L)) ∧ (¬ 5 ≤ x2 → vp_in ((x1 * 5) + x2) 15 ∧ (((I (o + 8) (((x1 * 5) + x2) : Int32).toNatClampNeg) = 0 → post (some (.int 0)) (n, sh, Rf, I, L)) ∧ (¬ (I (o + 8) (((x1 * 5) + x2) : Int32).toNatClampNeg) = 0 → post (some (.int 1)) (n, sh, Rf, I, L)))))))
set_option maxHeartbeats 4000000 in
set_option maxRecDepth 20000 in
theorem sLand_serves_0 {D : va_G} {cA : FieldType → ClassId} {b : Nat} {E : State → Prop} (o : Nat) (n : Nat) (sh : Nat → qC) (Rf : Nat → Nat → Option Nat) (I : Nat → Nat → Int32) (L : Nat → Nat → Int64) (post : Option Value → qS → Prop) (x1 : Int32) (x2 : Int32) (hok : q_ok (qGG D cA b E)) (hw : WfLand (qGG D cA b E) n sh Rf o) (H : fLand_serves_0 D cA b E o n sh Rf I L post x1 x2) : Ev (qGG D cA b E) mLand_serves 0 (0, 0) 0 [(0, .ref o), (1, .int x1), (2, .int x2)] [] (n, sh, Rf, I, L) post := by
  unfold fLand_serves_0 at H
  refine ev_iload_n dLand_serves_0 rfl ?_
  refine ev_if_lt 26 dLand_serves_1 (by decide) (fun c1 => ?_) (fun c1 => ?_)
  · have H := H.1 c1
    refine ev_iconst (0) dLand_serves_26 (by decide) ?_
    exact ev_zret rfl (by decide) dLand_serves_27 H
  · have H := H.2 c1
    refine ev_iload_n dLand_serves_4 rfl ?_
    refine ev_iconst (5) dLand_serves_5 (by decide) ?_
    refine ev_icmp_ge 26 dLand_serves_6 (by decide) (fun c2 => ?_) (fun c2 => ?_)
    · have H := H.1 c2
      refine ev_iconst (0) dLand_serves_26 (by decide) ?_
      exact ev_zret rfl (by decide) dLand_serves_27 H
    · have H := H.2 c2
      refine ev_aload_n dLand_serves_9 rfl ?_
      refine ev_getR hok fk_Land_50 (woLand hw) (fun _ _ _ => rfl) (wrLand_12 hw) dLand_serves_10 ?_
      refine ev_iload_n dLand_serves_13 rfl ?_
      refine ev_iconst (5) dLand_serves_14 (by decide) ?_
      refine ev_imul dLand_serves_15 ?_
      refine ev_iload_n dLand_serves_16 rfl ?_
      refine ev_iadd dLand_serves_17 ?_
      obtain ⟨h3, H⟩ := H
      refine ev_iald hok (waLand_12 hw) h3 dLand_serves_18 ?_
      refine ev_if_eq 26 dLand_serves_19 (by decide) (fun c4 => ?_) (fun c4 => ?_)
      · have H := H.1 c4
        refine ev_iconst (0) dLand_serves_26 (by decide) ?_
        exact ev_zret rfl (by decide) dLand_serves_27 H
      · have H := H.2 c4
        refine ev_iconst (1) dLand_serves_22 (by decide) ?_
        refine ev_goto 27 dLand_serves_23 (by decide) ?_
        exact ev_zret rfl (by decide) dLand_serves_27 H
def fLoads_forgetCome_0 (D : va_G) (cA : FieldType → ClassId) (b : Nat) (E : State → Prop) (o : Nat) (n : Nat) (sh : Nat → qC) (Rf : Nat → Nat → Option Nat) (I : Nat → Nat → Int32) (L : Nat → Nat → Int64) (post : Option Value → qS → Prop) (x1 : Int32) : Prop :=
  (((I o 9) ≤ (I o 8) → post none (n, sh, Rf, I, L)) ∧ (¬ (I o 9) ≤ (I o 8) → vp_in (I o 8) 2880 ∧ ((x1 < (I (o + 4) ((I o 8) : Int32).toNatClampNeg) → post none (n, sh, Rf, I, L)) ∧ (¬ x1 < (I (o + 4) ((I o 8) : Int32).toNatClampNeg) → ∀ I4 : Nat → Nat → Int32, q_u I o 8 ((I o 8) + 1) = I4 → Ev (qGG D cA b E) mLoads_forgetCome 0 (0, 0) 0 [(0, .ref o), (1, .int x1)] [] (n, sh, Rf, I4, L) post))))
set_option maxHeartbeats 4000000 in
set_option maxRecDepth 20000 in
theorem sLoads_forgetCome_0 {D : va_G} {cA : FieldType → ClassId} {b : Nat} {E : State → Prop} (o : Nat) (n : Nat) (sh : Nat → qC) (Rf : Nat → Nat → Option Nat) (I : Nat → Nat → Int32) (L : Nat → Nat → Int64) (post : Option Value → qS → Prop) (x1 : Int32) (hok : q_ok (qGG D cA b E)) (hw : WfLoads (qGG D cA b E) n sh Rf o) (H : fLoads_forgetCome_0 D cA b E o n sh Rf I L post x1) : Ev (qGG D cA b E) mLoads_forgetCome 0 (0, 0) 0 [(0, .ref o), (1, .int x1)] [] (n, sh, Rf, I, L) post := by
  unfold fLoads_forgetCome_0 at H
  refine ev_aload_n dLoads_forgetCome_0 rfl ?_
  refine ev_getI hok fk_Loads_36 (woLoads hw) (fun _ _ _ => rfl) dLoads_forgetCome_1 ?_
  refine ev_aload_n dLoads_forgetCome_4 rfl ?_
  refine ev_getI hok fk_Loads_40 (woLoads hw) (fun _ _ _ => rfl) dLoads_forgetCome_5 ?_
  refine ev_icmp_ge 37 dLoads_forgetCome_8 (by decide) (fun c1 => ?_) (fun c1 => ?_)
  · have H := H.1 c1
    exact ev_vret rfl dLoads_forgetCome_37 H
  · have H := H.2 c1
    refine ev_aload_n dLoads_forgetCome_11 rfl ?_
    refine ev_getR hok fk_Loads_21 (woLoads hw) (fun _ _ _ => rfl) (wrLoads_3 hw) dLoads_forgetCome_12 ?_
    refine ev_aload_n dLoads_forgetCome_15 rfl ?_
    refine ev_getI hok fk_Loads_36 (woLoads hw) (fun _ _ _ => rfl) dLoads_forgetCome_16 ?_
    obtain ⟨h2, H⟩ := H
    refine ev_iald hok (waLoads_3 hw) h2 dLoads_forgetCome_19 ?_
    refine ev_iload_n dLoads_forgetCome_20 rfl ?_
    refine ev_icmp_gt 37 dLoads_forgetCome_21 (by decide) (fun c3 => ?_) (fun c3 => ?_)
    · have H := H.1 c3
      exact ev_vret rfl dLoads_forgetCome_37 H
    · have H := H.2 c3
      refine ev_aload_n dLoads_forgetCome_24 rfl ?_
      refine ev_dup dLoads_forgetCome_25 rfl ?_
      refine ev_getI hok fk_Loads_36 (woLoads hw) (fun _ _ _ => rfl) dLoads_forgetCome_26 ?_
      refine ev_iconst (1) dLoads_forgetCome_29 (by decide) ?_
      refine ev_iadd dLoads_forgetCome_30 ?_
      refine ev_putI hok fk_Loads_36 (woLoads hw) (fun _ _ _ => rfl) rfl rfl dLoads_forgetCome_31 ?_
      generalize eI4 : q_u I o 8 ((I o 8) + 1) = I4
      have H := H I4 eI4
      refine ev_goto 0 dLoads_forgetCome_34 (by decide) ?_
      exact ev_sub [(0, .ref o), (1, .int x1)] rfl H
def fLoads_leaveTo_30 (D : va_G) (cA : FieldType → ClassId) (b : Nat) (E : State → Prop) (o : Nat) (n : Nat) (sh : Nat → qC) (Rf : Nat → Nat → Option Nat) (I : Nat → Nat → Int32) (L : Nat → Nat → Int64) (post : Option Value → qS → Prop) (x1 : Int32) (x2 : Int32) (x3 : Int32) : Prop :=
  Ev (qGG D cA b E) mLoads_leaveTo 0 (0, 0) 5 [(0, .ref o), (1, .int x1), (2, .int x2), (3, .int ((x3 + Int32.ofInt 1)))] [] (n, sh, Rf, I, L) post
set_option maxHeartbeats 4000000 in
set_option maxRecDepth 20000 in
theorem sLoads_leaveTo_30 {D : va_G} {cA : FieldType → ClassId} {b : Nat} {E : State → Prop} (o : Nat) (n : Nat) (sh : Nat → qC) (Rf : Nat → Nat → Option Nat) (I : Nat → Nat → Int32) (L : Nat → Nat → Int64) (post : Option Value → qS → Prop) (x1 : Int32) (x2 : Int32) (x3 : Int32) (hok : q_ok (qGG D cA b E)) (hw : WfLoads (qGG D cA b E) n sh Rf o) (H : fLoads_leaveTo_30 D cA b E o n sh Rf I L post x1 x2 x3) : Ev (qGG D cA b E) mLoads_leaveTo 0 (0, 0) 30 [(0, .ref o), (1, .int x1), (2, .int x2), (3, .int x3)] [] (n, sh, Rf, I, L) post := by
  unfold fLoads_leaveTo_30 at H
  refine ev_iinc dLoads_leaveTo_30 rfl (by decide) ?_
  refine ev_goto 5 dLoads_leaveTo_33 (by decide) ?_
  exact ev_sub [(0, .ref o), (1, .int x1), (2, .int x2), (3, .int ((x3 + Int32.ofInt 1)))] rfl H
def fLoads_leaveTo_5 (D : va_G) (cA : FieldType → ClassId) (b : Nat) (E : State → Prop) (o : Nat) (n : Nat) (sh : Nat → qC) (Rf : Nat → Nat → Option Nat) (I : Nat → Nat → Int32) (L : Nat → Nat → Int64) (post : Option Value → qS → Prop) (x1 : Int32) (x2 : Int32) (x3 : Int32) : Prop :=
  (((I o 9) ≤ x3 → post none (n, sh, Rf, I, L)) ∧ (¬ (I o 9) ≤ x3 → vp_in x3 2880 ∧ ((¬ (I (o + 2) (x3 : Int32).toNatClampNeg) = x2 → fLoads_leaveTo_30 D cA b E o n sh Rf I L post x1 x2 x3) ∧ ((I (o + 2) (x3 : Int32).toNatClampNeg) = x2 → vp_in x3 2880 ∧ ∀ I4 : Nat → Nat → Int32, q_u I (o + 2) (x3 : Int32).toNatClampNeg x1 = I4 → fLoads_leaveTo_30 D cA b E o n sh Rf I4 L post x1 x2 x3))))
set_option maxHeartbeats 4000000 in
set_option maxRecDepth 20000 in
theorem sLoads_leaveTo_5 {D : va_G} {cA : FieldType → ClassId} {b : Nat} {E : State → Prop} (o : Nat) (n : Nat) (sh : Nat → qC) (Rf : Nat → Nat → Option Nat) (I : Nat → Nat → Int32) (L : Nat → Nat → Int64) (post : Option Value → qS → Prop) (x1 : Int32) (x2 : Int32) (x3 : Int32) (hok : q_ok (qGG D cA b E)) (hw : WfLoads (qGG D cA b E) n sh Rf o) (H : fLoads_leaveTo_5 D cA b E o n sh Rf I L post x1 x2 x3) : Ev (qGG D cA b E) mLoads_leaveTo 0 (0, 0) 5 [(0, .ref o), (1, .int x1), (2, .int x2), (3, .int x3)] [] (n, sh, Rf, I, L) post := by
  unfold fLoads_leaveTo_5 at H
  refine ev_iload_n dLoads_leaveTo_5 rfl ?_
  refine ev_aload_n dLoads_leaveTo_6 rfl ?_
  refine ev_getI hok fk_Loads_40 (woLoads hw) (fun _ _ _ => rfl) dLoads_leaveTo_7 ?_
  refine ev_icmp_ge 36 dLoads_leaveTo_10 (by decide) (fun c1 => ?_) (fun c1 => ?_)
  · have H := H.1 c1
    exact ev_vret rfl dLoads_leaveTo_36 H
  · have H := H.2 c1
    refine ev_aload_n dLoads_leaveTo_13 rfl ?_
    refine ev_getR hok fk_Loads_15 (woLoads hw) (fun _ _ _ => rfl) (wrLoads_1 hw) dLoads_leaveTo_14 ?_
    refine ev_iload_n dLoads_leaveTo_17 rfl ?_
    obtain ⟨h2, H⟩ := H
    refine ev_iald hok (waLoads_1 hw) h2 dLoads_leaveTo_18 ?_
    refine ev_iload_n dLoads_leaveTo_19 rfl ?_
    refine ev_icmp_ne 30 dLoads_leaveTo_20 (by decide) (fun c3 => ?_) (fun c3 => ?_)
    · have H := H.1 c3
      exact ev_sub [(0, .ref o), (1, .int x1), (2, .int x2), (3, .int x3)] rfl (sLoads_leaveTo_30 o n sh Rf I L post x1 x2 x3 hok hw H)
    · have H := H.2 c3
      refine ev_aload_n dLoads_leaveTo_23 rfl ?_
      refine ev_getR hok fk_Loads_15 (woLoads hw) (fun _ _ _ => rfl) (wrLoads_1 hw) dLoads_leaveTo_24 ?_
      refine ev_iload_n dLoads_leaveTo_27 rfl ?_
      refine ev_iload_n dLoads_leaveTo_28 rfl ?_
      obtain ⟨h5, H⟩ := H
      refine ev_iast hok (waLoads_1 hw) h5 dLoads_leaveTo_29 ?_
      generalize eI4 : q_u I (o + 2) (x3 : Int32).toNatClampNeg x1 = I4
      have H := H I4 eI4
      exact ev_sub [(0, .ref o), (1, .int x1), (2, .int x2), (3, .int x3)] rfl (sLoads_leaveTo_30 o n sh Rf I4 L post x1 x2 x3 hok hw H)
def fLoads_leaveTo_0 (D : va_G) (cA : FieldType → ClassId) (b : Nat) (E : State → Prop) (o : Nat) (n : Nat) (sh : Nat → qC) (Rf : Nat → Nat → Option Nat) (I : Nat → Nat → Int32) (L : Nat → Nat → Int64) (post : Option Value → qS → Prop) (x1 : Int32) (x2 : Int32) : Prop :=
  Ev (qGG D cA b E) mLoads_leaveTo 0 (0, 0) 5 [(0, .ref o), (1, .int x1), (2, .int x2), (3, .int ((I o 8)))] [] (n, sh, Rf, I, L) post
set_option maxHeartbeats 4000000 in
set_option maxRecDepth 20000 in
theorem sLoads_leaveTo_0 {D : va_G} {cA : FieldType → ClassId} {b : Nat} {E : State → Prop} (o : Nat) (n : Nat) (sh : Nat → qC) (Rf : Nat → Nat → Option Nat) (I : Nat → Nat → Int32) (L : Nat → Nat → Int64) (post : Option Value → qS → Prop) (x1 : Int32) (x2 : Int32) (hok : q_ok (qGG D cA b E)) (hw : WfLoads (qGG D cA b E) n sh Rf o) (H : fLoads_leaveTo_0 D cA b E o n sh Rf I L post x1 x2) : Ev (qGG D cA b E) mLoads_leaveTo 0 (0, 0) 0 [(0, .ref o), (1, .int x1), (2, .int x2)] [] (n, sh, Rf, I, L) post := by
  unfold fLoads_leaveTo_0 at H
  refine ev_aload_n dLoads_leaveTo_0 rfl ?_
  refine ev_getI hok fk_Loads_36 (woLoads hw) (fun _ _ _ => rfl) dLoads_leaveTo_1 ?_
  refine ev_istore_n dLoads_leaveTo_4 (by decide) ?_
  exact ev_sub [(0, .ref o), (1, .int x1), (2, .int x2), (3, .int ((I o 8)))] rfl H
def fLoads_start_0 (D : va_G) (cA : FieldType → ClassId) (b : Nat) (E : State → Prop) (o : Nat) (n : Nat) (sh : Nat → qC) (Rf : Nat → Nat → Option Nat) (I : Nat → Nat → Int32) (L : Nat → Nat → Int64) (post : Option Value → qS → Prop)  : Prop :=
  ∀ I1 : Nat → Nat → Int32, q_u I o 8 0 = I1 → ∀ I2 : Nat → Nat → Int32, q_u I1 o 9 0 = I2 → post none (n, sh, Rf, I2, L)
set_option maxHeartbeats 4000000 in
set_option maxRecDepth 20000 in
theorem sLoads_start_0 {D : va_G} {cA : FieldType → ClassId} {b : Nat} {E : State → Prop} (o : Nat) (n : Nat) (sh : Nat → qC) (Rf : Nat → Nat → Option Nat) (I : Nat → Nat → Int32) (L : Nat → Nat → Int64) (post : Option Value → qS → Prop)  (hok : q_ok (qGG D cA b E)) (hw : WfLoads (qGG D cA b E) n sh Rf o) (H : fLoads_start_0 D cA b E o n sh Rf I L post ) : Ev (qGG D cA b E) mLoads_start 0 (0, 0) 0 [(0, .ref o)] [] (n, sh, Rf, I, L) post := by
  unfold fLoads_start_0 at H
  refine ev_aload_n dLoads_start_0 rfl ?_
  refine ev_iconst (0) dLoads_start_1 (by decide) ?_
  refine ev_putI hok fk_Loads_36 (woLoads hw) (fun _ _ _ => rfl) rfl rfl dLoads_start_2 ?_
  generalize eI1 : q_u I o 8 0 = I1
  have H := H I1 eI1
  refine ev_aload_n dLoads_start_5 rfl ?_
  refine ev_iconst (0) dLoads_start_6 (by decide) ?_
  refine ev_putI hok fk_Loads_40 (woLoads hw) (fun _ _ _ => rfl) rfl rfl dLoads_start_7 ?_
  generalize eI2 : q_u I1 o 9 0 = I2
  have H := H I2 eI2
  exact ev_vret rfl dLoads_start_10 H
def fLong_compare_74951_0 (D : va_G) (cA : FieldType → ClassId) (b : Nat) (E : State → Prop) (n : Nat) (sh : Nat → qC) (Rf : Nat → Nat → Option Nat) (I : Nat → Nat → Int32) (L : Nat → Nat → Int64) (post : Option Value → qS → Prop) (x0 : Int64) (x2 : Int64) : Prop :=
  ((0 ≤ (lg_cmp x0 x2) → ((¬ (lg_cmp x0 x2) = 0 → post (some (.int 1)) (n, sh, Rf, I, L)) ∧ ((lg_cmp x0 x2) = 0 → post (some (.int 0)) (n, sh, Rf, I, L)))) ∧ (¬ 0 ≤ (lg_cmp x0 x2) → post (some (.int ((-1)))) (n, sh, Rf, I, L)))
set_option maxHeartbeats 4000000 in
set_option maxRecDepth 20000 in
theorem sLong_compare_74951_0 {D : va_G} {cA : FieldType → ClassId} {b : Nat} {E : State → Prop} (n : Nat) (sh : Nat → qC) (Rf : Nat → Nat → Option Nat) (I : Nat → Nat → Int32) (L : Nat → Nat → Int64) (post : Option Value → qS → Prop) (x0 : Int64) (x2 : Int64) (hok : q_ok (qGG D cA b E)) (H : fLong_compare_74951_0 D cA b E n sh Rf I L post x0 x2) : Ev (qGG D cA b E) mLong_compare_74951 0 (0, 0) 0 [(0, .long x0), (2, .long x2)] [] (n, sh, Rf, I, L) post := by
  unfold fLong_compare_74951_0 at H
  refine ev_lload_n dLong_compare_74951_0 rfl ?_
  refine ev_lload_n dLong_compare_74951_1 rfl ?_
  refine ev_lcmp dLong_compare_74951_2 ?_
  refine ev_if_ge 10 dLong_compare_74951_3 (by decide) (fun c1 => ?_) (fun c1 => ?_)
  · have H := H.1 c1
    refine ev_lload_n dLong_compare_74951_10 rfl ?_
    refine ev_lload_n dLong_compare_74951_11 rfl ?_
    refine ev_lcmp dLong_compare_74951_12 ?_
    refine ev_if_ne 20 dLong_compare_74951_13 (by decide) (fun c2 => ?_) (fun c2 => ?_)
    · have H := H.1 c2
      refine ev_iconst (1) dLong_compare_74951_20 (by decide) ?_
      exact ev_iret rfl dLong_compare_74951_21 H
    · have H := H.2 c2
      refine ev_iconst (0) dLong_compare_74951_16 (by decide) ?_
      refine ev_goto 21 dLong_compare_74951_17 (by decide) ?_
      exact ev_iret rfl dLong_compare_74951_21 H
  · have H := H.2 c1
    refine ev_iconst (-1) dLong_compare_74951_6 (by decide) ?_
    refine ev_goto 21 dLong_compare_74951_7 (by decide) ?_
    exact ev_iret rfl dLong_compare_74951_21 H
def fOffice_end_0 (D : va_G) (cA : FieldType → ClassId) (b : Nat) (E : State → Prop) (o : Nat) (n : Nat) (sh : Nat → qC) (Rf : Nat → Nat → Option Nat) (I : Nat → Nat → Int32) (L : Nat → Nat → Int64) (post : Option Value → qS → Prop) (x1 : Int32) : Prop :=
  ((x1 < 0 → post (some (.int ((-1)))) (n, sh, Rf, I, L)) ∧ (¬ x1 < 0 → ((x1 ≤ (I (o + 1) 6) → ∀ I3 : Nat → Nat → Int32, q_u I (o + 1) 6 x1 = I3 → post (some (.int x1)) (n, sh, Rf, I3, L)) ∧ (¬ x1 ≤ (I (o + 1) 6) → post (some (.int ((-1)))) (n, sh, Rf, I, L)))))
set_option maxHeartbeats 4000000 in
set_option maxRecDepth 20000 in
theorem sOffice_end_0 {D : va_G} {cA : FieldType → ClassId} {b : Nat} {E : State → Prop} (o : Nat) (n : Nat) (sh : Nat → qC) (Rf : Nat → Nat → Option Nat) (I : Nat → Nat → Int32) (L : Nat → Nat → Int64) (post : Option Value → qS → Prop) (x1 : Int32) (hok : q_ok (qGG D cA b E)) (hw : WfOffice (qGG D cA b E) n sh Rf o) (H : fOffice_end_0 D cA b E o n sh Rf I L post x1) : Ev (qGG D cA b E) mOffice_end 0 (0, 0) 0 [(0, .ref o), (1, .int x1)] [] (n, sh, Rf, I, L) post := by
  unfold fOffice_end_0 at H
  refine ev_iload_n dOffice_end_0 rfl ?_
  refine ev_if_lt 15 dOffice_end_1 (by decide) (fun c1 => ?_) (fun c1 => ?_)
  · have H := H.1 c1
    refine ev_iconst (-1) dOffice_end_15 (by decide) ?_
    exact ev_iret rfl dOffice_end_16 H
  · have H := H.2 c1
    refine ev_iload_n dOffice_end_4 rfl ?_
    refine ev_aload_n dOffice_end_5 rfl ?_
    refine ev_getR hok fk_Office_12 (woOffice hw) (fun _ _ _ => rfl) (wrOffice_0 hw) dOffice_end_6 ?_
    refine ev_getI hok fk_Office_65 (woTape (wsOffice_0 hw)) (fun _ _ _ => rfl) dOffice_end_9 ?_
    refine ev_icmp_le 17 dOffice_end_12 (by decide) (fun c2 => ?_) (fun c2 => ?_)
    · have H := H.1 c2
      refine ev_aload_n dOffice_end_17 rfl ?_
      refine ev_getR hok fk_Office_12 (woOffice hw) (fun _ _ _ => rfl) (wrOffice_0 hw) dOffice_end_18 ?_
      refine ev_iload_n dOffice_end_21 rfl ?_
      refine ev_putI hok fk_Office_65 (woTape (wsOffice_0 hw)) (fun _ _ _ => rfl) rfl rfl dOffice_end_22 ?_
      generalize eI3 : q_u I (o + 1) 6 x1 = I3
      have H := H I3 eI3
      refine ev_iload_n dOffice_end_25 rfl ?_
      exact ev_iret rfl dOffice_end_26 H
    · have H := H.2 c2
      refine ev_iconst (-1) dOffice_end_15 (by decide) ?_
      exact ev_iret rfl dOffice_end_16 H
def fOffice_fault_0 (D : va_G) (cA : FieldType → ClassId) (b : Nat) (E : State → Prop) (o : Nat) (n : Nat) (sh : Nat → qC) (Rf : Nat → Nat → Option Nat) (I : Nat → Nat → Int32) (L : Nat → Nat → Int64) (post : Option Value → qS → Prop) (x1 : Int32) : Prop :=
  ((¬ x1 = 0 → ((¬ x1 = 1 → post (some (.int ((-1)))) (n, sh, Rf, I, L)) ∧ (x1 = 1 → post (some (.int ((I (o + 1) 8)))) (n, sh, Rf, I, L)))) ∧ (x1 = 0 → post (some (.int ((I (o + 1) 7)))) (n, sh, Rf, I, L)))
set_option maxHeartbeats 4000000 in
set_option maxRecDepth 20000 in
theorem sOffice_fault_0 {D : va_G} {cA : FieldType → ClassId} {b : Nat} {E : State → Prop} (o : Nat) (n : Nat) (sh : Nat → qC) (Rf : Nat → Nat → Option Nat) (I : Nat → Nat → Int32) (L : Nat → Nat → Int64) (post : Option Value → qS → Prop) (x1 : Int32) (hok : q_ok (qGG D cA b E)) (hw : WfOffice (qGG D cA b E) n sh Rf o) (H : fOffice_fault_0 D cA b E o n sh Rf I L post x1) : Ev (qGG D cA b E) mOffice_fault 0 (0, 0) 0 [(0, .ref o), (1, .int x1)] [] (n, sh, Rf, I, L) post := by
  unfold fOffice_fault_0 at H
  refine ev_iload_n dOffice_fault_0 rfl ?_
  refine ev_if_ne 12 dOffice_fault_1 (by decide) (fun c1 => ?_) (fun c1 => ?_)
  · have H := H.1 c1
    refine ev_iload_n dOffice_fault_12 rfl ?_
    refine ev_iconst (1) dOffice_fault_13 (by decide) ?_
    refine ev_icmp_ne 27 dOffice_fault_14 (by decide) (fun c2 => ?_) (fun c2 => ?_)
    · have H := H.1 c2
      refine ev_iconst (-1) dOffice_fault_27 (by decide) ?_
      exact ev_iret rfl dOffice_fault_28 H
    · have H := H.2 c2
      refine ev_aload_n dOffice_fault_17 rfl ?_
      refine ev_getR hok fk_Office_12 (woOffice hw) (fun _ _ _ => rfl) (wrOffice_0 hw) dOffice_fault_18 ?_
      refine ev_getI hok fk_Office_102 (woTape (wsOffice_0 hw)) (fun _ _ _ => rfl) dOffice_fault_21 ?_
      refine ev_goto 28 dOffice_fault_24 (by decide) ?_
      exact ev_iret rfl dOffice_fault_28 H
  · have H := H.2 c1
    refine ev_aload_n dOffice_fault_4 rfl ?_
    refine ev_getR hok fk_Office_12 (woOffice hw) (fun _ _ _ => rfl) (wrOffice_0 hw) dOffice_fault_5 ?_
    refine ev_getI hok fk_Office_99 (woTape (wsOffice_0 hw)) (fun _ _ _ => rfl) dOffice_fault_8 ?_
    exact ev_iret rfl dOffice_fault_11 H
def fOffice_later_0 (D : va_G) (cA : FieldType → ClassId) (b : Nat) (E : State → Prop) (o : Nat) (n : Nat) (sh : Nat → qC) (Rf : Nat → Nat → Option Nat) (I : Nat → Nat → Int32) (L : Nat → Nat → Int64) (post : Option Value → qS → Prop) (x1 : Int32) : Prop :=
  ((x1 < 0 → post (some (.int ((-1)))) (n, sh, Rf, I, L)) ∧ (¬ x1 < 0 → ((1000 < x1 → post (some (.int ((-1)))) (n, sh, Rf, I, L)) ∧ (¬ 1000 < x1 → ((((I o 7) + x1) ≤ 100000 → ∀ I4 : Nat → Nat → Int32, q_u I o 7 ((I o 7) + x1) = I4 → post (some (.int ((I4 o 7)))) (n, sh, Rf, I4, L)) ∧ (¬ ((I o 7) + x1) ≤ 100000 → post (some (.int ((-1)))) (n, sh, Rf, I, L)))))))
set_option maxHeartbeats 4000000 in
set_option maxRecDepth 20000 in
theorem sOffice_later_0 {D : va_G} {cA : FieldType → ClassId} {b : Nat} {E : State → Prop} (o : Nat) (n : Nat) (sh : Nat → qC) (Rf : Nat → Nat → Option Nat) (I : Nat → Nat → Int32) (L : Nat → Nat → Int64) (post : Option Value → qS → Prop) (x1 : Int32) (hok : q_ok (qGG D cA b E)) (hw : WfOffice (qGG D cA b E) n sh Rf o) (H : fOffice_later_0 D cA b E o n sh Rf I L post x1) : Ev (qGG D cA b E) mOffice_later 0 (0, 0) 0 [(0, .ref o), (1, .int x1)] [] (n, sh, Rf, I, L) post := by
  unfold fOffice_later_0 at H
  refine ev_iload_n dOffice_later_0 rfl ?_
  refine ev_if_lt 22 dOffice_later_1 (by decide) (fun c1 => ?_) (fun c1 => ?_)
  · have H := H.1 c1
    refine ev_iconst (-1) dOffice_later_22 (by decide) ?_
    exact ev_iret rfl dOffice_later_23 H
  · have H := H.2 c1
    refine ev_iload_n dOffice_later_4 rfl ?_
    refine ev_sipush (1000) dOffice_later_5 (by decide) ?_
    refine ev_icmp_gt 22 dOffice_later_8 (by decide) (fun c2 => ?_) (fun c2 => ?_)
    · have H := H.1 c2
      refine ev_iconst (-1) dOffice_later_22 (by decide) ?_
      exact ev_iret rfl dOffice_later_23 H
    · have H := H.2 c2
      refine ev_aload_n dOffice_later_11 rfl ?_
      refine ev_getI hok fk_Office_51 (woOffice hw) (fun _ _ _ => rfl) dOffice_later_12 ?_
      refine ev_iload_n dOffice_later_15 rfl ?_
      refine ev_iadd dOffice_later_16 ?_
      refine ev_ldc (100000) dOffice_later_17 (q_t5 70 (by decide +kernel) rfl) ?_
      refine ev_icmp_le 24 dOffice_later_19 (by decide) (fun c3 => ?_) (fun c3 => ?_)
      · have H := H.1 c3
        refine ev_aload_n dOffice_later_24 rfl ?_
        refine ev_dup dOffice_later_25 rfl ?_
        refine ev_getI hok fk_Office_51 (woOffice hw) (fun _ _ _ => rfl) dOffice_later_26 ?_
        refine ev_iload_n dOffice_later_29 rfl ?_
        refine ev_iadd dOffice_later_30 ?_
        refine ev_putI hok fk_Office_51 (woOffice hw) (fun _ _ _ => rfl) rfl rfl dOffice_later_31 ?_
        generalize eI4 : q_u I o 7 ((I o 7) + x1) = I4
        have H := H I4 eI4
        refine ev_aload_n dOffice_later_34 rfl ?_
        refine ev_getI hok fk_Office_51 (woOffice hw) (fun _ _ _ => rfl) dOffice_later_35 ?_
        exact ev_iret rfl dOffice_later_38 H
      · have H := H.2 c3
        refine ev_iconst (-1) dOffice_later_22 (by decide) ?_
        exact ev_iret rfl dOffice_later_23 H
def fOffice_merchant_0 (D : va_G) (cA : FieldType → ClassId) (b : Nat) (E : State → Prop) (o : Nat) (n : Nat) (sh : Nat → qC) (Rf : Nat → Nat → Option Nat) (I : Nat → Nat → Int32) (L : Nat → Nat → Int64) (post : Option Value → qS → Prop) (x1 : Int32) : Prop :=
  ((x1 < 0 → post (some (.int ((-1)))) (n, sh, Rf, I, L)) ∧ (¬ x1 < 0 → ((30000 < x1 → post (some (.int ((-1)))) (n, sh, Rf, I, L)) ∧ (¬ 30000 < x1 → (((I (o + 46) 1) < 6 → ∀ I4 : Nat → Nat → Int32, q_u I (o + 55) 15 0 = I4 → vp_in (I4 (o + 46) 1) 6 ∧ ∀ I5 : Nat → Nat → Int32, q_u I4 ((o + 46) + 1) ((I4 (o + 46) 1) : Int32).toNatClampNeg x1 = I5 → ∀ I7 : Nat → Nat → Int32, q_u I5 (o + 46) 1 ((I5 (o + 46) 1) + 1) = I7 → post (some (.int (((I7 (o + 46) 1) - 1)))) (n, sh, Rf, I7, L)) ∧ (¬ (I (o + 46) 1) < 6 → post (some (.int ((-1)))) (n, sh, Rf, I, L)))))))
set_option maxHeartbeats 4000000 in
set_option maxRecDepth 20000 in
theorem sOffice_merchant_0 {D : va_G} {cA : FieldType → ClassId} {b : Nat} {E : State → Prop} (o : Nat) (n : Nat) (sh : Nat → qC) (Rf : Nat → Nat → Option Nat) (I : Nat → Nat → Int32) (L : Nat → Nat → Int64) (post : Option Value → qS → Prop) (x1 : Int32) (hok : q_ok (qGG D cA b E)) (hw : WfOffice (qGG D cA b E) n sh Rf o) (H : fOffice_merchant_0 D cA b E o n sh Rf I L post x1) : Ev (qGG D cA b E) mOffice_merchant 0 (0, 0) 0 [(0, .ref o), (1, .int x1)] [] (n, sh, Rf, I, L) post := by
  unfold fOffice_merchant_0 at H
  refine ev_iload_n dOffice_merchant_0 rfl ?_
  refine ev_if_lt 23 dOffice_merchant_1 (by decide) (fun c1 => ?_) (fun c1 => ?_)
  · have H := H.1 c1
    refine ev_iconst (-1) dOffice_merchant_23 (by decide) ?_
    exact ev_iret rfl dOffice_merchant_24 H
  · have H := H.2 c1
    refine ev_iload_n dOffice_merchant_4 rfl ?_
    refine ev_sipush (30000) dOffice_merchant_5 (by decide) ?_
    refine ev_icmp_gt 23 dOffice_merchant_8 (by decide) (fun c2 => ?_) (fun c2 => ?_)
    · have H := H.1 c2
      refine ev_iconst (-1) dOffice_merchant_23 (by decide) ?_
      exact ev_iret rfl dOffice_merchant_24 H
    · have H := H.2 c2
      refine ev_aload_n dOffice_merchant_11 rfl ?_
      refine ev_getR hok fk_Office_40 (woOffice hw) (fun _ _ _ => rfl) (wrOffice_5 hw) dOffice_merchant_12 ?_
      refine ev_getI hok fk_Office_109 (woTrade (wsOffice_5 hw)) (fun _ _ _ => rfl) dOffice_merchant_15 ?_
      refine ev_bipush (6) dOffice_merchant_18 (by decide) ?_
      refine ev_icmp_lt 25 dOffice_merchant_20 (by decide) (fun c3 => ?_) (fun c3 => ?_)
      · have H := H.1 c3
        refine ev_aload_n dOffice_merchant_25 rfl ?_
        refine ev_getR hok fk_Office_58 (woOffice hw) (fun _ _ _ => rfl) (wrOffice_8 hw) dOffice_merchant_26 ?_
        refine ev_iconst (0) dOffice_merchant_29 (by decide) ?_
        refine ev_putI hok fk_Office_79 (woRun (wsOffice_8 hw)) (fun _ _ _ => rfl) (q_bz (Or.inl rfl)) (q_bf (Or.inl rfl)) dOffice_merchant_30 ?_
        generalize eI4 : q_u I (o + 55) 15 0 = I4
        have H := H I4 eI4
        refine ev_aload_n dOffice_merchant_33 rfl ?_
        refine ev_getR hok fk_Office_40 (woOffice hw) (fun _ _ _ => rfl) (wrOffice_5 hw) dOffice_merchant_34 ?_
        refine ev_getR hok fk_Office_112 (woTrade (wsOffice_5 hw)) (fun _ _ _ => rfl) (wrTrade_0 (wsOffice_5 hw)) dOffice_merchant_37 ?_
        refine ev_aload_n dOffice_merchant_40 rfl ?_
        refine ev_getR hok fk_Office_40 (woOffice hw) (fun _ _ _ => rfl) (wrOffice_5 hw) dOffice_merchant_41 ?_
        refine ev_getI hok fk_Office_109 (woTrade (wsOffice_5 hw)) (fun _ _ _ => rfl) dOffice_merchant_44 ?_
        refine ev_iload_n dOffice_merchant_47 rfl ?_
        obtain ⟨h6, H⟩ := H
        refine ev_iast hok (waTrade_0 (wsOffice_5 hw)) h6 dOffice_merchant_48 ?_
        generalize eI5 : q_u I4 ((o + 46) + 1) ((I4 (o + 46) 1) : Int32).toNatClampNeg x1 = I5
        have H := H I5 eI5
        refine ev_aload_n dOffice_merchant_49 rfl ?_
        refine ev_getR hok fk_Office_40 (woOffice hw) (fun _ _ _ => rfl) (wrOffice_5 hw) dOffice_merchant_50 ?_
        refine ev_dup dOffice_merchant_53 rfl ?_
        refine ev_getI hok fk_Office_109 (woTrade (wsOffice_5 hw)) (fun _ _ _ => rfl) dOffice_merchant_54 ?_
        refine ev_iconst (1) dOffice_merchant_57 (by decide) ?_
        refine ev_iadd dOffice_merchant_58 ?_
        refine ev_putI hok fk_Office_109 (woTrade (wsOffice_5 hw)) (fun _ _ _ => rfl) rfl rfl dOffice_merchant_59 ?_
        generalize eI7 : q_u I5 (o + 46) 1 ((I5 (o + 46) 1) + 1) = I7
        have H := H I7 eI7
        refine ev_aload_n dOffice_merchant_62 rfl ?_
        refine ev_getR hok fk_Office_40 (woOffice hw) (fun _ _ _ => rfl) (wrOffice_5 hw) dOffice_merchant_63 ?_
        refine ev_getI hok fk_Office_109 (woTrade (wsOffice_5 hw)) (fun _ _ _ => rfl) dOffice_merchant_66 ?_
        refine ev_iconst (1) dOffice_merchant_69 (by decide) ?_
        refine ev_isub dOffice_merchant_70 ?_
        exact ev_iret rfl dOffice_merchant_71 H
      · have H := H.2 c3
        refine ev_iconst (-1) dOffice_merchant_23 (by decide) ?_
        exact ev_iret rfl dOffice_merchant_24 H
def fOffice_monthsOfWay_0 (D : va_G) (cA : FieldType → ClassId) (b : Nat) (E : State → Prop) (n : Nat) (sh : Nat → qC) (Rf : Nat → Nat → Option Nat) (I : Nat → Nat → Int32) (L : Nat → Nat → Int64) (post : Option Value → qS → Prop) (x0 : Int32) : Prop :=
  post (some (.int (((x0 + 29) / 30)))) (n, sh, Rf, I, L)
set_option maxHeartbeats 4000000 in
set_option maxRecDepth 20000 in
theorem sOffice_monthsOfWay_0 {D : va_G} {cA : FieldType → ClassId} {b : Nat} {E : State → Prop} (n : Nat) (sh : Nat → qC) (Rf : Nat → Nat → Option Nat) (I : Nat → Nat → Int32) (L : Nat → Nat → Int64) (post : Option Value → qS → Prop) (x0 : Int32) (hok : q_ok (qGG D cA b E)) (H : fOffice_monthsOfWay_0 D cA b E n sh Rf I L post x0) : Ev (qGG D cA b E) mOffice_monthsOfWay 0 (0, 0) 0 [(0, .int x0)] [] (n, sh, Rf, I, L) post := by
  unfold fOffice_monthsOfWay_0 at H
  refine ev_iload_n dOffice_monthsOfWay_0 rfl ?_
  refine ev_bipush (29) dOffice_monthsOfWay_1 (by decide) ?_
  refine ev_iadd dOffice_monthsOfWay_3 ?_
  refine ev_bipush (30) dOffice_monthsOfWay_4 (by decide) ?_
  refine ev_idiv dOffice_monthsOfWay_6 (by decide) ?_
  exact ev_iret rfl dOffice_monthsOfWay_7 H
def fOffice_ran_0 (D : va_G) (cA : FieldType → ClassId) (b : Nat) (E : State → Prop) (o : Nat) (n : Nat) (sh : Nat → qC) (Rf : Nat → Nat → Option Nat) (I : Nat → Nat → Int32) (L : Nat → Nat → Int64) (post : Option Value → qS → Prop) (x1 : Int32) : Prop :=
  (((I (o + 55) 15) = 0 → post (some (.long ((-1)))) (n, sh, Rf, I, L)) ∧ (¬ (I (o + 55) 15) = 0 → ((x1 < 0 → post (some (.long ((-1)))) (n, sh, Rf, I, L)) ∧ (¬ x1 < 0 → ((x1 < 11 → vp_in x1 11 ∧ post (some (.long ((L ((o + 55) + 65) (x1 : Int32).toNatClampNeg)))) (n, sh, Rf, I, L)) ∧ (¬ x1 < 11 → post (some (.long ((-1)))) (n, sh, Rf, I, L)))))))
set_option maxHeartbeats 4000000 in
set_option maxRecDepth 20000 in
theorem sOffice_ran_0 {D : va_G} {cA : FieldType → ClassId} {b : Nat} {E : State → Prop} (o : Nat) (n : Nat) (sh : Nat → qC) (Rf : Nat → Nat → Option Nat) (I : Nat → Nat → Int32) (L : Nat → Nat → Int64) (post : Option Value → qS → Prop) (x1 : Int32) (hok : q_ok (qGG D cA b E)) (hw : WfOffice (qGG D cA b E) n sh Rf o) (H : fOffice_ran_0 D cA b E o n sh Rf I L post x1) : Ev (qGG D cA b E) mOffice_ran 0 (0, 0) 0 [(0, .ref o), (1, .int x1)] [] (n, sh, Rf, I, L) post := by
  unfold fOffice_ran_0 at H
  refine ev_aload_n dOffice_ran_0 rfl ?_
  refine ev_getR hok fk_Office_58 (woOffice hw) (fun _ _ _ => rfl) (wrOffice_8 hw) dOffice_ran_1 ?_
  refine ev_getI hok fk_Office_79 (woRun (wsOffice_8 hw)) (fun _ _ _ => rfl) dOffice_ran_4 ?_
  refine ev_if_eq 20 dOffice_ran_7 (by decide) (fun c1 => ?_) (fun c1 => ?_)
  · have H := H.1 c1
    refine ev_ldc2 (-1) dOffice_ran_20 (q_t6 147 (by decide +kernel) rfl) ?_
    exact ev_lret rfl dOffice_ran_23 H
  · have H := H.2 c1
    refine ev_iload_n dOffice_ran_10 rfl ?_
    refine ev_if_lt 20 dOffice_ran_11 (by decide) (fun c2 => ?_) (fun c2 => ?_)
    · have H := H.1 c2
      refine ev_ldc2 (-1) dOffice_ran_20 (q_t6 147 (by decide +kernel) rfl) ?_
      exact ev_lret rfl dOffice_ran_23 H
    · have H := H.2 c2
      refine ev_iload_n dOffice_ran_14 rfl ?_
      refine ev_bipush (11) dOffice_ran_15 (by decide) ?_
      refine ev_icmp_lt 24 dOffice_ran_17 (by decide) (fun c3 => ?_) (fun c3 => ?_)
      · have H := H.1 c3
        refine ev_aload_n dOffice_ran_24 rfl ?_
        refine ev_getR hok fk_Office_58 (woOffice hw) (fun _ _ _ => rfl) (wrOffice_8 hw) dOffice_ran_25 ?_
        refine ev_getR hok fk_Office_164 (woRun (wsOffice_8 hw)) (fun _ _ _ => rfl) (wrRun_14 (wsOffice_8 hw)) dOffice_ran_28 ?_
        refine ev_iload_n dOffice_ran_31 rfl ?_
        obtain ⟨h4, H⟩ := H
        refine ev_lald hok (waRun_14 (wsOffice_8 hw)) h4 dOffice_ran_32 ?_
        exact ev_lret rfl dOffice_ran_33 H
      · have H := H.2 c3
        refine ev_ldc2 (-1) dOffice_ran_20 (q_t6 147 (by decide +kernel) rfl) ?_
        exact ev_lret rfl dOffice_ran_23 H
def fOffice_ranMonth_0 (D : va_G) (cA : FieldType → ClassId) (b : Nat) (E : State → Prop) (o : Nat) (n : Nat) (sh : Nat → qC) (Rf : Nat → Nat → Option Nat) (I : Nat → Nat → Int32) (L : Nat → Nat → Int64) (post : Option Value → qS → Prop) (x1 : Int32) : Prop :=
  (((I (o + 55) 15) = 0 → post (some (.int 0)) (n, sh, Rf, I, L)) ∧ (¬ (I (o + 55) 15) = 0 → ((x1 < 0 → post (some (.int 0)) (n, sh, Rf, I, L)) ∧ (¬ x1 < 0 → (((I (o + 55) 16) ≤ x1 → post (some (.int 0)) (n, sh, Rf, I, L)) ∧ (¬ (I (o + 55) 16) ≤ x1 → post (some (.int 1)) (n, sh, Rf, I, L)))))))
set_option maxHeartbeats 4000000 in
set_option maxRecDepth 20000 in
theorem sOffice_ranMonth_0 {D : va_G} {cA : FieldType → ClassId} {b : Nat} {E : State → Prop} (o : Nat) (n : Nat) (sh : Nat → qC) (Rf : Nat → Nat → Option Nat) (I : Nat → Nat → Int32) (L : Nat → Nat → Int64) (post : Option Value → qS → Prop) (x1 : Int32) (hok : q_ok (qGG D cA b E)) (hw : WfOffice (qGG D cA b E) n sh Rf o) (H : fOffice_ranMonth_0 D cA b E o n sh Rf I L post x1) : Ev (qGG D cA b E) mOffice_ranMonth 0 (0, 0) 0 [(0, .ref o), (1, .int x1)] [] (n, sh, Rf, I, L) post := by
  unfold fOffice_ranMonth_0 at H
  refine ev_aload_n dOffice_ranMonth_0 rfl ?_
  refine ev_getR hok fk_Office_58 (woOffice hw) (fun _ _ _ => rfl) (wrOffice_8 hw) dOffice_ranMonth_1 ?_
  refine ev_getI hok fk_Office_79 (woRun (wsOffice_8 hw)) (fun _ _ _ => rfl) dOffice_ranMonth_4 ?_
  refine ev_if_eq 29 dOffice_ranMonth_7 (by decide) (fun c1 => ?_) (fun c1 => ?_)
  · have H := H.1 c1
    refine ev_iconst (0) dOffice_ranMonth_29 (by decide) ?_
    exact ev_zret rfl (by decide) dOffice_ranMonth_30 H
  · have H := H.2 c1
    refine ev_iload_n dOffice_ranMonth_10 rfl ?_
    refine ev_if_lt 29 dOffice_ranMonth_11 (by decide) (fun c2 => ?_) (fun c2 => ?_)
    · have H := H.1 c2
      refine ev_iconst (0) dOffice_ranMonth_29 (by decide) ?_
      exact ev_zret rfl (by decide) dOffice_ranMonth_30 H
    · have H := H.2 c2
      refine ev_iload_n dOffice_ranMonth_14 rfl ?_
      refine ev_aload_n dOffice_ranMonth_15 rfl ?_
      refine ev_getR hok fk_Office_58 (woOffice hw) (fun _ _ _ => rfl) (wrOffice_8 hw) dOffice_ranMonth_16 ?_
      refine ev_getI hok fk_Office_238 (woRun (wsOffice_8 hw)) (fun _ _ _ => rfl) dOffice_ranMonth_19 ?_
      refine ev_icmp_ge 29 dOffice_ranMonth_22 (by decide) (fun c3 => ?_) (fun c3 => ?_)
      · have H := H.1 c3
        refine ev_iconst (0) dOffice_ranMonth_29 (by decide) ?_
        exact ev_zret rfl (by decide) dOffice_ranMonth_30 H
      · have H := H.2 c3
        refine ev_iconst (1) dOffice_ranMonth_25 (by decide) ?_
        refine ev_goto 30 dOffice_ranMonth_26 (by decide) ?_
        exact ev_zret rfl (by decide) dOffice_ranMonth_30 H
def fOffice_shelfAt_9 (D : va_G) (cA : FieldType → ClassId) (b : Nat) (E : State → Prop) (o : Nat) (n : Nat) (sh : Nat → qC) (Rf : Nat → Nat → Option Nat) (I : Nat → Nat → Int32) (L : Nat → Nat → Int64) (post : Option Value → qS → Prop) (x1 : Int32) : Prop :=
  post (some (.null)) (n, sh, Rf, I, L)
set_option maxHeartbeats 4000000 in
set_option maxRecDepth 20000 in
theorem sOffice_shelfAt_9 {D : va_G} {cA : FieldType → ClassId} {b : Nat} {E : State → Prop} (o : Nat) (n : Nat) (sh : Nat → qC) (Rf : Nat → Nat → Option Nat) (I : Nat → Nat → Int32) (L : Nat → Nat → Int64) (post : Option Value → qS → Prop) (x1 : Int32) (hok : q_ok (qGG D cA b E)) (hw : WfOffice (qGG D cA b E) n sh Rf o) (H : fOffice_shelfAt_9 D cA b E o n sh Rf I L post x1) : Ev (qGG D cA b E) mOffice_shelfAt 0 (0, 0) 9 [(0, .ref o), (1, .int x1)] [] (n, sh, Rf, I, L) post := by
  unfold fOffice_shelfAt_9 at H
  refine ev_null dOffice_shelfAt_9 ?_
  refine ev_goto 19 dOffice_shelfAt_10 (by decide) ?_
  exact ev_aret (C := "SaltOffice$Reform") rfl (Or.inl rfl) dOffice_shelfAt_19 H
def fOffice_shelfAt_0 (D : va_G) (cA : FieldType → ClassId) (b : Nat) (E : State → Prop) (o : Nat) (n : Nat) (sh : Nat → qC) (Rf : Nat → Nat → Option Nat) (I : Nat → Nat → Int32) (L : Nat → Nat → Int64) (post : Option Value → qS → Prop) (x1 : Int32) : Prop :=
  ((x1 < 0 → fOffice_shelfAt_9 D cA b E o n sh Rf I L post x1) ∧ (¬ x1 < 0 → ((x1 < 4 → vp_in x1 4 ∧ ∃ r3 : Nat, Rf (o + 40) (x1 : Int32).toNatClampNeg = some r3 ∧ WfReform (qGG D cA b E) n sh Rf r3 ∧ post (some (.ref r3)) (n, sh, Rf, I, L)) ∧ (¬ x1 < 4 → fOffice_shelfAt_9 D cA b E o n sh Rf I L post x1))))
set_option maxHeartbeats 4000000 in
set_option maxRecDepth 20000 in
theorem sOffice_shelfAt_0 {D : va_G} {cA : FieldType → ClassId} {b : Nat} {E : State → Prop} (o : Nat) (n : Nat) (sh : Nat → qC) (Rf : Nat → Nat → Option Nat) (I : Nat → Nat → Int32) (L : Nat → Nat → Int64) (post : Option Value → qS → Prop) (x1 : Int32) (hok : q_ok (qGG D cA b E)) (hw : WfOffice (qGG D cA b E) n sh Rf o) (H : fOffice_shelfAt_0 D cA b E o n sh Rf I L post x1) : Ev (qGG D cA b E) mOffice_shelfAt 0 (0, 0) 0 [(0, .ref o), (1, .int x1)] [] (n, sh, Rf, I, L) post := by
  unfold fOffice_shelfAt_0 at H
  refine ev_iload_n dOffice_shelfAt_0 rfl ?_
  refine ev_if_lt 9 dOffice_shelfAt_1 (by decide) (fun c1 => ?_) (fun c1 => ?_)
  · have H := H.1 c1
    exact ev_sub [(0, .ref o), (1, .int x1)] rfl (sOffice_shelfAt_9 o n sh Rf I L post x1 hok hw H)
  · have H := H.2 c1
    refine ev_iload_n dOffice_shelfAt_4 rfl ?_
    refine ev_iconst (4) dOffice_shelfAt_5 (by decide) ?_
    refine ev_icmp_lt 13 dOffice_shelfAt_6 (by decide) (fun c2 => ?_) (fun c2 => ?_)
    · have H := H.1 c2
      refine ev_aload_n dOffice_shelfAt_13 rfl ?_
      refine ev_getR hok fk_Office_28 (woOffice hw) (fun _ _ _ => rfl) (wrOffice_3 hw) dOffice_shelfAt_14 ?_
      refine ev_iload_n dOffice_shelfAt_17 rfl ?_
      obtain ⟨h4, r3, er3, hwr3, H⟩ := H
      refine ev_aald (C := "SaltOffice$Reform") (.ref r3) (show FieldType.object "SaltOffice$Reform" ∈ qtl by decide) (waOffice_3 hw) h4 (by rw [er3]; rfl) dOffice_shelfAt_18 ?_
      exact ev_aret (C := "SaltOffice$Reform") rfl (Or.inr ⟨_, rfl⟩) dOffice_shelfAt_19 H
    · have H := H.2 c2
      exact ev_sub [(0, .ref o), (1, .int x1)] rfl (sOffice_shelfAt_9 o n sh Rf I L post x1 hok hw H)
def fOffice_untell_0 (D : va_G) (cA : FieldType → ClassId) (b : Nat) (E : State → Prop) (o : Nat) (n : Nat) (sh : Nat → qC) (Rf : Nat → Nat → Option Nat) (I : Nat → Nat → Int32) (L : Nat → Nat → Int64) (post : Option Value → qS → Prop) (x1 : Int32) : Prop :=
  ((x1 < 0 → post (some (.int 0)) (n, sh, Rf, I, L)) ∧ (¬ x1 < 0 → (((I (o + 48) 6) ≤ x1 → post (some (.int 0)) (n, sh, Rf, I, L)) ∧ (¬ (I (o + 48) 6) ≤ x1 → vp_in x1 40 ∧ (((I ((o + 48) + 6) (x1 : Int32).toNatClampNeg) = (-1) → vp_in x1 40 ∧ ∀ I5 : Nat → Nat → Int32, q_u I ((o + 48) + 6) (x1 : Int32).toNatClampNeg (I o 7) = I5 → post (some (.int 1)) (n, sh, Rf, I5, L)) ∧ (¬ (I ((o + 48) + 6) (x1 : Int32).toNatClampNeg) = (-1) → post (some (.int 0)) (n, sh, Rf, I, L)))))))
set_option maxHeartbeats 4000000 in
set_option maxRecDepth 20000 in
theorem sOffice_untell_0 {D : va_G} {cA : FieldType → ClassId} {b : Nat} {E : State → Prop} (o : Nat) (n : Nat) (sh : Nat → qC) (Rf : Nat → Nat → Option Nat) (I : Nat → Nat → Int32) (L : Nat → Nat → Int64) (post : Option Value → qS → Prop) (x1 : Int32) (hok : q_ok (qGG D cA b E)) (hw : WfOffice (qGG D cA b E) n sh Rf o) (H : fOffice_untell_0 D cA b E o n sh Rf I L post x1) : Ev (qGG D cA b E) mOffice_untell 0 (0, 0) 0 [(0, .ref o), (1, .int x1)] [] (n, sh, Rf, I, L) post := by
  unfold fOffice_untell_0 at H
  refine ev_iload_n dOffice_untell_0 rfl ?_
  refine ev_if_lt 28 dOffice_untell_1 (by decide) (fun c1 => ?_) (fun c1 => ?_)
  · have H := H.1 c1
    refine ev_iconst (0) dOffice_untell_28 (by decide) ?_
    exact ev_zret rfl (by decide) dOffice_untell_29 H
  · have H := H.2 c1
    refine ev_iload_n dOffice_untell_4 rfl ?_
    refine ev_aload_n dOffice_untell_5 rfl ?_
    refine ev_getR hok fk_Office_47 (woOffice hw) (fun _ _ _ => rfl) (wrOffice_6 hw) dOffice_untell_6 ?_
    refine ev_getI hok fk_Office_76 (woFacts (wsOffice_6 hw)) (fun _ _ _ => rfl) dOffice_untell_9 ?_
    refine ev_icmp_ge 28 dOffice_untell_12 (by decide) (fun c2 => ?_) (fun c2 => ?_)
    · have H := H.1 c2
      refine ev_iconst (0) dOffice_untell_28 (by decide) ?_
      exact ev_zret rfl (by decide) dOffice_untell_29 H
    · have H := H.2 c2
      refine ev_aload_n dOffice_untell_15 rfl ?_
      refine ev_getR hok fk_Office_47 (woOffice hw) (fun _ _ _ => rfl) (wrOffice_6 hw) dOffice_untell_16 ?_
      refine ev_getR hok fk_Office_143 (woFacts (wsOffice_6 hw)) (fun _ _ _ => rfl) (wrFacts_5 (wsOffice_6 hw)) dOffice_untell_19 ?_
      refine ev_iload_n dOffice_untell_22 rfl ?_
      obtain ⟨h3, H⟩ := H
      refine ev_iald hok (waFacts_5 (wsOffice_6 hw)) h3 dOffice_untell_23 ?_
      refine ev_iconst (-1) dOffice_untell_24 (by decide) ?_
      refine ev_icmp_eq 30 dOffice_untell_25 (by decide) (fun c4 => ?_) (fun c4 => ?_)
      · have H := H.1 c4
        refine ev_aload_n dOffice_untell_30 rfl ?_
        refine ev_getR hok fk_Office_47 (woOffice hw) (fun _ _ _ => rfl) (wrOffice_6 hw) dOffice_untell_31 ?_
        refine ev_getR hok fk_Office_143 (woFacts (wsOffice_6 hw)) (fun _ _ _ => rfl) (wrFacts_5 (wsOffice_6 hw)) dOffice_untell_34 ?_
        refine ev_iload_n dOffice_untell_37 rfl ?_
        refine ev_aload_n dOffice_untell_38 rfl ?_
        refine ev_getI hok fk_Office_51 (woOffice hw) (fun _ _ _ => rfl) dOffice_untell_39 ?_
        obtain ⟨h6, H⟩ := H
        refine ev_iast hok (waFacts_5 (wsOffice_6 hw)) h6 dOffice_untell_42 ?_
        generalize eI5 : q_u I ((o + 48) + 6) (x1 : Int32).toNatClampNeg (I o 7) = I5
        have H := H I5 eI5
        refine ev_iconst (1) dOffice_untell_43 (by decide) ?_
        exact ev_zret rfl (by decide) dOffice_untell_44 H
      · have H := H.2 c4
        refine ev_iconst (0) dOffice_untell_28 (by decide) ?_
        exact ev_zret rfl (by decide) dOffice_untell_29 H
def fOffice_within_0 (D : va_G) (cA : FieldType → ClassId) (b : Nat) (E : State → Prop) (n : Nat) (sh : Nat → qC) (Rf : Nat → Nat → Option Nat) (I : Nat → Nat → Int32) (L : Nat → Nat → Int64) (post : Option Value → qS → Prop) (x0 : Int32) (x1 : Int32) (x2 : Int32) : Prop :=
  ((x0 < x1 → post (some (.int 0)) (n, sh, Rf, I, L)) ∧ (¬ x0 < x1 → ((x2 < x0 → post (some (.int 0)) (n, sh, Rf, I, L)) ∧ (¬ x2 < x0 → post (some (.int 1)) (n, sh, Rf, I, L)))))
set_option maxHeartbeats 4000000 in
set_option maxRecDepth 20000 in
theorem sOffice_within_0 {D : va_G} {cA : FieldType → ClassId} {b : Nat} {E : State → Prop} (n : Nat) (sh : Nat → qC) (Rf : Nat → Nat → Option Nat) (I : Nat → Nat → Int32) (L : Nat → Nat → Int64) (post : Option Value → qS → Prop) (x0 : Int32) (x1 : Int32) (x2 : Int32) (hok : q_ok (qGG D cA b E)) (H : fOffice_within_0 D cA b E n sh Rf I L post x0 x1 x2) : Ev (qGG D cA b E) mOffice_within 0 (0, 0) 0 [(0, .int x0), (1, .int x1), (2, .int x2)] [] (n, sh, Rf, I, L) post := by
  unfold fOffice_within_0 at H
  refine ev_iload_n dOffice_within_0 rfl ?_
  refine ev_iload_n dOffice_within_1 rfl ?_
  refine ev_icmp_lt 14 dOffice_within_2 (by decide) (fun c1 => ?_) (fun c1 => ?_)
  · have H := H.1 c1
    refine ev_iconst (0) dOffice_within_14 (by decide) ?_
    exact ev_zret rfl (by decide) dOffice_within_15 H
  · have H := H.2 c1
    refine ev_iload_n dOffice_within_5 rfl ?_
    refine ev_iload_n dOffice_within_6 rfl ?_
    refine ev_icmp_gt 14 dOffice_within_7 (by decide) (fun c2 => ?_) (fun c2 => ?_)
    · have H := H.1 c2
      refine ev_iconst (0) dOffice_within_14 (by decide) ?_
      exact ev_zret rfl (by decide) dOffice_within_15 H
    · have H := H.2 c2
      refine ev_iconst (1) dOffice_within_10 (by decide) ?_
      refine ev_goto 15 dOffice_within_11 (by decide) ?_
      exact ev_zret rfl (by decide) dOffice_within_15 H
def fPapers_detail_0 (D : va_G) (cA : FieldType → ClassId) (b : Nat) (E : State → Prop) (o : Nat) (n : Nat) (sh : Nat → qC) (Rf : Nat → Nat → Option Nat) (I : Nat → Nat → Int32) (L : Nat → Nat → Int64) (post : Option Value → qS → Prop) (x1 : Int32) (x2 : Int32) : Prop :=
  ((x2 = (0 : Int32) → vp_in x1 1440 ∧ post (some (.int ((I (o + 1) (x1 : Int32).toNatClampNeg)))) (n, sh, Rf, I, L)) ∧ (¬ x2 = (0 : Int32) → ((x2 = (1 : Int32) → vp_in x1 1440 ∧ post (some (.int ((I (o + 2) (x1 : Int32).toNatClampNeg)))) (n, sh, Rf, I, L)) ∧ (¬ x2 = (1 : Int32) → ((x2 = (2 : Int32) → vp_in x1 1440 ∧ post (some (.int ((I (o + 3) (x1 : Int32).toNatClampNeg)))) (n, sh, Rf, I, L)) ∧ (¬ x2 = (2 : Int32) → ((x2 = (3 : Int32) → vp_in x1 1440 ∧ post (some (.int ((I (o + 4) (x1 : Int32).toNatClampNeg)))) (n, sh, Rf, I, L)) ∧ (¬ x2 = (3 : Int32) → ((x2 = (4 : Int32) → vp_in x1 1440 ∧ post (some (.int ((I (o + 5) (x1 : Int32).toNatClampNeg)))) (n, sh, Rf, I, L)) ∧ (¬ x2 = (4 : Int32) → ((x2 = (5 : Int32) → vp_in x1 1440 ∧ post (some (.int ((I (o + 6) (x1 : Int32).toNatClampNeg)))) (n, sh, Rf, I, L)) ∧ (¬ x2 = (5 : Int32) → ((x2 = (6 : Int32) → vp_in x1 1440 ∧ post (some (.int ((I (o + 7) (x1 : Int32).toNatClampNeg)))) (n, sh, Rf, I, L)) ∧ (¬ x2 = (6 : Int32) → ((x2 = (7 : Int32) → vp_in x1 1440 ∧ post (some (.int ((I (o + 8) (x1 : Int32).toNatClampNeg)))) (n, sh, Rf, I, L)) ∧ (¬ x2 = (7 : Int32) → post (some (.int ((-1)))) (n, sh, Rf, I, L)))))))))))))))))
set_option maxHeartbeats 4000000 in
set_option maxRecDepth 20000 in
theorem sPapers_detail_0 {D : va_G} {cA : FieldType → ClassId} {b : Nat} {E : State → Prop} (o : Nat) (n : Nat) (sh : Nat → qC) (Rf : Nat → Nat → Option Nat) (I : Nat → Nat → Int32) (L : Nat → Nat → Int64) (post : Option Value → qS → Prop) (x1 : Int32) (x2 : Int32) (hok : q_ok (qGG D cA b E)) (hw : WfPapers (qGG D cA b E) n sh Rf o) (H : fPapers_detail_0 D cA b E o n sh Rf I L post x1 x2) : Ev (qGG D cA b E) mPapers_detail 0 (0, 0) 0 [(0, .ref o), (1, .int x1), (2, .int x2)] [] (n, sh, Rf, I, L) post := by
  unfold fPapers_detail_0 at H
  refine ev_iload_n dPapers_detail_0 rfl ?_
  rcases q_em (x2 = (0)) with c0 | c0
  · have H := H.1 c0
    refine ev_tableIn 48 dPapers_detail_1 (by rw [c0]; decide) (by rw [c0]; decide) (off := 47) (by rw [c0]; rfl) (by decide) ?_
    refine ev_aload_n dPapers_detail_48 rfl ?_
    refine ev_getR hok fk_Papers_9 (woPapers hw) (fun _ _ _ => rfl) (wrPapers_0 hw) dPapers_detail_49 ?_
    refine ev_iload_n dPapers_detail_52 rfl ?_
    obtain ⟨h1, H⟩ := H
    refine ev_iald hok (waPapers_0 hw) h1 dPapers_detail_53 ?_
    exact ev_iret rfl dPapers_detail_54 H
  have H := H.2 c0
  rcases q_em (x2 = (1)) with c1 | c1
  · have H := H.1 c1
    refine ev_tableIn 55 dPapers_detail_1 (by rw [c1]; decide) (by rw [c1]; decide) (off := 54) (by rw [c1]; rfl) (by decide) ?_
    refine ev_aload_n dPapers_detail_55 rfl ?_
    refine ev_getR hok fk_Papers_15 (woPapers hw) (fun _ _ _ => rfl) (wrPapers_1 hw) dPapers_detail_56 ?_
    refine ev_iload_n dPapers_detail_59 rfl ?_
    obtain ⟨h2, H⟩ := H
    refine ev_iald hok (waPapers_1 hw) h2 dPapers_detail_60 ?_
    exact ev_iret rfl dPapers_detail_61 H
  have H := H.2 c1
  rcases q_em (x2 = (2)) with c2 | c2
  · have H := H.1 c2
    refine ev_tableIn 62 dPapers_detail_1 (by rw [c2]; decide) (by rw [c2]; decide) (off := 61) (by rw [c2]; rfl) (by decide) ?_
    refine ev_aload_n dPapers_detail_62 rfl ?_
    refine ev_getR hok fk_Papers_18 (woPapers hw) (fun _ _ _ => rfl) (wrPapers_2 hw) dPapers_detail_63 ?_
    refine ev_iload_n dPapers_detail_66 rfl ?_
    obtain ⟨h3, H⟩ := H
    refine ev_iald hok (waPapers_2 hw) h3 dPapers_detail_67 ?_
    exact ev_iret rfl dPapers_detail_68 H
  have H := H.2 c2
  rcases q_em (x2 = (3)) with c3 | c3
  · have H := H.1 c3
    refine ev_tableIn 69 dPapers_detail_1 (by rw [c3]; decide) (by rw [c3]; decide) (off := 68) (by rw [c3]; rfl) (by decide) ?_
    refine ev_aload_n dPapers_detail_69 rfl ?_
    refine ev_getR hok fk_Papers_21 (woPapers hw) (fun _ _ _ => rfl) (wrPapers_3 hw) dPapers_detail_70 ?_
    refine ev_iload_n dPapers_detail_73 rfl ?_
    obtain ⟨h4, H⟩ := H
    refine ev_iald hok (waPapers_3 hw) h4 dPapers_detail_74 ?_
    exact ev_iret rfl dPapers_detail_75 H
  have H := H.2 c3
  rcases q_em (x2 = (4)) with c4 | c4
  · have H := H.1 c4
    refine ev_tableIn 76 dPapers_detail_1 (by rw [c4]; decide) (by rw [c4]; decide) (off := 75) (by rw [c4]; rfl) (by decide) ?_
    refine ev_aload_n dPapers_detail_76 rfl ?_
    refine ev_getR hok fk_Papers_24 (woPapers hw) (fun _ _ _ => rfl) (wrPapers_4 hw) dPapers_detail_77 ?_
    refine ev_iload_n dPapers_detail_80 rfl ?_
    obtain ⟨h5, H⟩ := H
    refine ev_iald hok (waPapers_4 hw) h5 dPapers_detail_81 ?_
    exact ev_iret rfl dPapers_detail_82 H
  have H := H.2 c4
  rcases q_em (x2 = (5)) with c5 | c5
  · have H := H.1 c5
    refine ev_tableIn 83 dPapers_detail_1 (by rw [c5]; decide) (by rw [c5]; decide) (off := 82) (by rw [c5]; rfl) (by decide) ?_
    refine ev_aload_n dPapers_detail_83 rfl ?_
    refine ev_getR hok fk_Papers_27 (woPapers hw) (fun _ _ _ => rfl) (wrPapers_5 hw) dPapers_detail_84 ?_
    refine ev_iload_n dPapers_detail_87 rfl ?_
    obtain ⟨h6, H⟩ := H
    refine ev_iald hok (waPapers_5 hw) h6 dPapers_detail_88 ?_
    exact ev_iret rfl dPapers_detail_89 H
  have H := H.2 c5
  rcases q_em (x2 = (6)) with c6 | c6
  · have H := H.1 c6
    refine ev_tableIn 90 dPapers_detail_1 (by rw [c6]; decide) (by rw [c6]; decide) (off := 89) (by rw [c6]; rfl) (by decide) ?_
    refine ev_aload_n dPapers_detail_90 rfl ?_
    refine ev_getR hok fk_Papers_30 (woPapers hw) (fun _ _ _ => rfl) (wrPapers_6 hw) dPapers_detail_91 ?_
    refine ev_iload_n dPapers_detail_94 rfl ?_
    obtain ⟨h7, H⟩ := H
    refine ev_iald hok (waPapers_6 hw) h7 dPapers_detail_95 ?_
    exact ev_iret rfl dPapers_detail_96 H
  have H := H.2 c6
  rcases q_em (x2 = (7)) with c7 | c7
  · have H := H.1 c7
    refine ev_tableIn 97 dPapers_detail_1 (by rw [c7]; decide) (by rw [c7]; decide) (off := 96) (by rw [c7]; rfl) (by decide) ?_
    refine ev_aload_n dPapers_detail_97 rfl ?_
    refine ev_getR hok fk_Papers_33 (woPapers hw) (fun _ _ _ => rfl) (wrPapers_7 hw) dPapers_detail_98 ?_
    refine ev_iload_n dPapers_detail_101 rfl ?_
    obtain ⟨h8, H⟩ := H
    refine ev_iald hok (waPapers_7 hw) h8 dPapers_detail_102 ?_
    exact ev_iret rfl dPapers_detail_103 H
  have H := H.2 c7
  refine ev_tableOut 104 dPapers_detail_1 (by have e0 : (0 : Int) ≠ (x2 : Int32).toInt := fun h => c0 (Int32.toInt_inj.mp (h.symm.trans (by decide))); have e1 : (1 : Int) ≠ (x2 : Int32).toInt := fun h => c1 (Int32.toInt_inj.mp (h.symm.trans (by decide))); have e2 : (2 : Int) ≠ (x2 : Int32).toInt := fun h => c2 (Int32.toInt_inj.mp (h.symm.trans (by decide))); have e3 : (3 : Int) ≠ (x2 : Int32).toInt := fun h => c3 (Int32.toInt_inj.mp (h.symm.trans (by decide))); have e4 : (4 : Int) ≠ (x2 : Int32).toInt := fun h => c4 (Int32.toInt_inj.mp (h.symm.trans (by decide))); have e5 : (5 : Int) ≠ (x2 : Int32).toInt := fun h => c5 (Int32.toInt_inj.mp (h.symm.trans (by decide))); have e6 : (6 : Int) ≠ (x2 : Int32).toInt := fun h => c6 (Int32.toInt_inj.mp (h.symm.trans (by decide))); have e7 : (7 : Int) ≠ (x2 : Int32).toInt := fun h => c7 (Int32.toInt_inj.mp (h.symm.trans (by decide))); omega) (by decide) ?_
  refine ev_iconst (-1) dPapers_detail_104 (by decide) ?_
  exact ev_iret rfl dPapers_detail_105 H
def fPapers_give_109 (D : va_G) (cA : FieldType → ClassId) (b : Nat) (E : State → Prop) (o : Nat) (n : Nat) (sh : Nat → qC) (Rf : Nat → Nat → Option Nat) (I : Nat → Nat → Int32) (L : Nat → Nat → Int64) (post : Option Value → qS → Prop) (x1 : Int32) (x2 : Int32) (x3 : Int32) (x4 : Int32) (x5 : Int32) (x6 : Int32) (x7 : Int32) (z0 : Int32) (z1 : Int32) : Prop :=
  vp_in z1 1440 ∧ ∀ I1 : Nat → Nat → Int32, q_u I (o + 8) (z1 : Int32).toNatClampNeg z0 = I1 → vp_in x7 1440 ∧ ((¬ (I1 (o + 8) (x7 : Int32).toNatClampNeg) = 0 → post none (n, sh, Rf, I1, L)) ∧ ((I1 (o + 8) (x7 : Int32).toNatClampNeg) = 0 → vp_in (I1 o 13) 1440 ∧ ∀ I5 : Nat → Nat → Int32, q_u I1 (o + 11) ((I1 o 13) : Int32).toNatClampNeg x7 = I5 → ∀ I7 : Nat → Nat → Int32, q_u I5 o 13 ((I5 o 13) + 1) = I7 → ∀ I8 : Nat → Nat → Int32, q_u I7 o 14 ((I7 o 14) + x3) = I8 → vp_in x2 3 ∧ vp_in x2 3 ∧ ∀ I10 : Nat → Nat → Int32, q_u I8 (o + 12) (x2 : Int32).toNatClampNeg ((I8 (o + 12) (x2 : Int32).toNatClampNeg) + x3) = I10 → post none (n, sh, Rf, I10, L)))
set_option maxHeartbeats 4000000 in
set_option maxRecDepth 20000 in
theorem sPapers_give_109 {D : va_G} {cA : FieldType → ClassId} {b : Nat} {E : State → Prop} (o : Nat) (n : Nat) (sh : Nat → qC) (Rf : Nat → Nat → Option Nat) (I : Nat → Nat → Int32) (L : Nat → Nat → Int64) (post : Option Value → qS → Prop) (x1 : Int32) (x2 : Int32) (x3 : Int32) (x4 : Int32) (x5 : Int32) (x6 : Int32) (x7 : Int32) (z0 : Int32) (z1 : Int32) (hok : q_ok (qGG D cA b E)) (hw : WfPapers (qGG D cA b E) n sh Rf o) (H : fPapers_give_109 D cA b E o n sh Rf I L post x1 x2 x3 x4 x5 x6 x7 z0 z1) : Ev (qGG D cA b E) mPapers_give 0 (0, 0) 109 [(0, .ref o), (1, .int x1), (2, .int x2), (3, .int x3), (4, .int x4), (5, .int x5), (6, .int x6), (7, .int x7)] [.int z0, .int z1, .ref ((o + 8))] (n, sh, Rf, I, L) post := by
  unfold fPapers_give_109 at H
  obtain ⟨h2, H⟩ := H
  refine ev_iast hok (waPapers_7 hw) h2 dPapers_give_109 ?_
  generalize eI1 : q_u I (o + 8) (z1 : Int32).toNatClampNeg z0 = I1
  have H := H I1 eI1
  refine ev_aload_n dPapers_give_110 rfl ?_
  refine ev_getR hok fk_Papers_33 (woPapers hw) (fun _ _ _ => rfl) (wrPapers_7 hw) dPapers_give_111 ?_
  refine ev_iload dPapers_give_114 rfl ?_
  obtain ⟨h3, H⟩ := H
  refine ev_iald hok (waPapers_7 hw) h3 dPapers_give_116 ?_
  refine ev_if_ne 161 dPapers_give_117 (by decide) (fun c4 => ?_) (fun c4 => ?_)
  · have H := H.1 c4
    exact ev_vret rfl dPapers_give_161 H
  · have H := H.2 c4
    refine ev_aload_n dPapers_give_120 rfl ?_
    refine ev_getR hok fk_Papers_42 (woPapers hw) (fun _ _ _ => rfl) (wrPapers_10 hw) dPapers_give_121 ?_
    refine ev_aload_n dPapers_give_124 rfl ?_
    refine ev_getI hok fk_Papers_52 (woPapers hw) (fun _ _ _ => rfl) dPapers_give_125 ?_
    refine ev_iload dPapers_give_128 rfl ?_
    obtain ⟨h6, H⟩ := H
    refine ev_iast hok (waPapers_10 hw) h6 dPapers_give_130 ?_
    generalize eI5 : q_u I1 (o + 11) ((I1 o 13) : Int32).toNatClampNeg x7 = I5
    have H := H I5 eI5
    refine ev_aload_n dPapers_give_131 rfl ?_
    refine ev_dup dPapers_give_132 rfl ?_
    refine ev_getI hok fk_Papers_52 (woPapers hw) (fun _ _ _ => rfl) dPapers_give_133 ?_
    refine ev_iconst (1) dPapers_give_136 (by decide) ?_
    refine ev_iadd dPapers_give_137 ?_
    refine ev_putI hok fk_Papers_52 (woPapers hw) (fun _ _ _ => rfl) rfl rfl dPapers_give_138 ?_
    generalize eI7 : q_u I5 o 13 ((I5 o 13) + 1) = I7
    have H := H I7 eI7
    refine ev_aload_n dPapers_give_141 rfl ?_
    refine ev_dup dPapers_give_142 rfl ?_
    refine ev_getI hok fk_Papers_55 (woPapers hw) (fun _ _ _ => rfl) dPapers_give_143 ?_
    refine ev_iload_n dPapers_give_146 rfl ?_
    refine ev_iadd dPapers_give_147 ?_
    refine ev_putI hok fk_Papers_55 (woPapers hw) (fun _ _ _ => rfl) rfl rfl dPapers_give_148 ?_
    generalize eI8 : q_u I7 o 14 ((I7 o 14) + x3) = I8
    have H := H I8 eI8
    refine ev_aload_n dPapers_give_151 rfl ?_
    refine ev_getR hok fk_Papers_45 (woPapers hw) (fun _ _ _ => rfl) (wrPapers_11 hw) dPapers_give_152 ?_
    refine ev_iload_n dPapers_give_155 rfl ?_
    refine ev_dup2_11 dPapers_give_156 rfl rfl ?_
    obtain ⟨h9, H⟩ := H
    refine ev_iald hok (waPapers_11 hw) h9 dPapers_give_157 ?_
    refine ev_iload_n dPapers_give_158 rfl ?_
    refine ev_iadd dPapers_give_159 ?_
    obtain ⟨h11, H⟩ := H
    refine ev_iast hok (waPapers_11 hw) h11 dPapers_give_160 ?_
    generalize eI10 : q_u I8 (o + 12) (x2 : Int32).toNatClampNeg ((I8 (o + 12) (x2 : Int32).toNatClampNeg) + x3) = I10
    have H := H I10 eI10
    exact ev_vret rfl dPapers_give_161 H
def fPapers_give_0 (D : va_G) (cA : FieldType → ClassId) (b : Nat) (E : State → Prop) (o : Nat) (n : Nat) (sh : Nat → qC) (Rf : Nat → Nat → Option Nat) (I : Nat → Nat → Int32) (L : Nat → Nat → Int64) (post : Option Value → qS → Prop) (x1 : Int32) (x2 : Int32) (x3 : Int32) (x4 : Int32) (x5 : Int32) (x6 : Int32) : Prop :=
  (((I o 12) < 1440 → ∀ I2 : Nat → Nat → Int32, q_u I o 12 ((I o 12) + 1) = I2 → vp_in (I o 12) 1440 ∧ ∀ I3 : Nat → Nat → Int32, q_u I2 (o + 1) ((I o 12) : Int32).toNatClampNeg x1 = I3 → vp_in (I o 12) 1440 ∧ ∀ I5 : Nat → Nat → Int32, q_u I3 (o + 2) ((I o 12) : Int32).toNatClampNeg x2 = I5 → vp_in (I o 12) 1440 ∧ ∀ I7 : Nat → Nat → Int32, q_u I5 (o + 3) ((I o 12) : Int32).toNatClampNeg x3 = I7 → vp_in (I o 12) 1440 ∧ ∀ I9 : Nat → Nat → Int32, q_u I7 (o + 4) ((I o 12) : Int32).toNatClampNeg x4 = I9 → vp_in (I o 12) 1440 ∧ ∀ I11 : Nat → Nat → Int32, q_u I9 (o + 5) ((I o 12) : Int32).toNatClampNeg x5 = I11 → vp_in (I o 12) 1440 ∧ ∀ I13 : Nat → Nat → Int32, q_u I11 (o + 6) ((I o 12) : Int32).toNatClampNeg x6 = I13 → vp_in (I o 12) 1440 ∧ ∀ I15 : Nat → Nat → Int32, q_u I13 (o + 7) ((I o 12) : Int32).toNatClampNeg (-1) = I15 → vp_in (I o 12) 1440 ∧ ((x4 < (I15 (o + 10) ((I o 12) : Int32).toNatClampNeg) → fPapers_give_109 D cA b E o n sh Rf I15 L post x1 x2 x3 x4 x5 x6 (I o 12) 0 (I o 12)) ∧ (¬ x4 < (I15 (o + 10) ((I o 12) : Int32).toNatClampNeg) → fPapers_give_109 D cA b E o n sh Rf I15 L post x1 x2 x3 x4 x5 x6 (I o 12) 1 (I o 12)))) ∧ (¬ (I o 12) < 1440 → post none (n, sh, Rf, I, L)))
set_option maxHeartbeats 4000000 in
set_option maxRecDepth 20000 in
theorem sPapers_give_0 {D : va_G} {cA : FieldType → ClassId} {b : Nat} {E : State → Prop} (o : Nat) (n : Nat) (sh : Nat → qC) (Rf : Nat → Nat → Option Nat) (I : Nat → Nat → Int32) (L : Nat → Nat → Int64) (post : Option Value → qS → Prop) (x1 : Int32) (x2 : Int32) (x3 : Int32) (x4 : Int32) (x5 : Int32) (x6 : Int32) (hok : q_ok (qGG D cA b E)) (hw : WfPapers (qGG D cA b E) n sh Rf o) (H : fPapers_give_0 D cA b E o n sh Rf I L post x1 x2 x3 x4 x5 x6) : Ev (qGG D cA b E) mPapers_give 0 (0, 0) 0 [(0, .ref o), (1, .int x1), (2, .int x2), (3, .int x3), (4, .int x4), (5, .int x5), (6, .int x6)] [] (n, sh, Rf, I, L) post := by
  unfold fPapers_give_0 at H
  refine ev_aload_n dPapers_give_0 rfl ?_
  refine ev_getI hok fk_Papers_48 (woPapers hw) (fun _ _ _ => rfl) dPapers_give_1 ?_
  refine ev_sipush (1440) dPapers_give_4 (by decide) ?_
  refine ev_icmp_lt 11 dPapers_give_7 (by decide) (fun c1 => ?_) (fun c1 => ?_)
  · have H := H.1 c1
    refine ev_aload_n dPapers_give_11 rfl ?_
    refine ev_getI hok fk_Papers_48 (woPapers hw) (fun _ _ _ => rfl) dPapers_give_12 ?_
    refine ev_istore dPapers_give_15 (by decide) ?_
    refine ev_aload_n dPapers_give_17 rfl ?_
    refine ev_dup dPapers_give_18 rfl ?_
    refine ev_getI hok fk_Papers_48 (woPapers hw) (fun _ _ _ => rfl) dPapers_give_19 ?_
    refine ev_iconst (1) dPapers_give_22 (by decide) ?_
    refine ev_iadd dPapers_give_23 ?_
    refine ev_putI hok fk_Papers_48 (woPapers hw) (fun _ _ _ => rfl) rfl rfl dPapers_give_24 ?_
    generalize eI2 : q_u I o 12 ((I o 12) + 1) = I2
    have H := H I2 eI2
    refine ev_aload_n dPapers_give_27 rfl ?_
    refine ev_getR hok fk_Papers_9 (woPapers hw) (fun _ _ _ => rfl) (wrPapers_0 hw) dPapers_give_28 ?_
    refine ev_iload dPapers_give_31 rfl ?_
    refine ev_iload_n dPapers_give_33 rfl ?_
    obtain ⟨h4, H⟩ := H
    refine ev_iast hok (waPapers_0 hw) h4 dPapers_give_34 ?_
    generalize eI3 : q_u I2 (o + 1) ((I o 12) : Int32).toNatClampNeg x1 = I3
    have H := H I3 eI3
    refine ev_aload_n dPapers_give_35 rfl ?_
    refine ev_getR hok fk_Papers_15 (woPapers hw) (fun _ _ _ => rfl) (wrPapers_1 hw) dPapers_give_36 ?_
    refine ev_iload dPapers_give_39 rfl ?_
    refine ev_iload_n dPapers_give_41 rfl ?_
    obtain ⟨h6, H⟩ := H
    refine ev_iast hok (waPapers_1 hw) h6 dPapers_give_42 ?_
    generalize eI5 : q_u I3 (o + 2) ((I o 12) : Int32).toNatClampNeg x2 = I5
    have H := H I5 eI5
    refine ev_aload_n dPapers_give_43 rfl ?_
    refine ev_getR hok fk_Papers_18 (woPapers hw) (fun _ _ _ => rfl) (wrPapers_2 hw) dPapers_give_44 ?_
    refine ev_iload dPapers_give_47 rfl ?_
    refine ev_iload_n dPapers_give_49 rfl ?_
    obtain ⟨h8, H⟩ := H
    refine ev_iast hok (waPapers_2 hw) h8 dPapers_give_50 ?_
    generalize eI7 : q_u I5 (o + 3) ((I o 12) : Int32).toNatClampNeg x3 = I7
    have H := H I7 eI7
    refine ev_aload_n dPapers_give_51 rfl ?_
    refine ev_getR hok fk_Papers_21 (woPapers hw) (fun _ _ _ => rfl) (wrPapers_3 hw) dPapers_give_52 ?_
    refine ev_iload dPapers_give_55 rfl ?_
    refine ev_iload dPapers_give_57 rfl ?_
    obtain ⟨h10, H⟩ := H
    refine ev_iast hok (waPapers_3 hw) h10 dPapers_give_59 ?_
    generalize eI9 : q_u I7 (o + 4) ((I o 12) : Int32).toNatClampNeg x4 = I9
    have H := H I9 eI9
    refine ev_aload_n dPapers_give_60 rfl ?_
    refine ev_getR hok fk_Papers_24 (woPapers hw) (fun _ _ _ => rfl) (wrPapers_4 hw) dPapers_give_61 ?_
    refine ev_iload dPapers_give_64 rfl ?_
    refine ev_iload dPapers_give_66 rfl ?_
    obtain ⟨h12, H⟩ := H
    refine ev_iast hok (waPapers_4 hw) h12 dPapers_give_68 ?_
    generalize eI11 : q_u I9 (o + 5) ((I o 12) : Int32).toNatClampNeg x5 = I11
    have H := H I11 eI11
    refine ev_aload_n dPapers_give_69 rfl ?_
    refine ev_getR hok fk_Papers_27 (woPapers hw) (fun _ _ _ => rfl) (wrPapers_5 hw) dPapers_give_70 ?_
    refine ev_iload dPapers_give_73 rfl ?_
    refine ev_iload dPapers_give_75 rfl ?_
    obtain ⟨h14, H⟩ := H
    refine ev_iast hok (waPapers_5 hw) h14 dPapers_give_77 ?_
    generalize eI13 : q_u I11 (o + 6) ((I o 12) : Int32).toNatClampNeg x6 = I13
    have H := H I13 eI13
    refine ev_aload_n dPapers_give_78 rfl ?_
    refine ev_getR hok fk_Papers_30 (woPapers hw) (fun _ _ _ => rfl) (wrPapers_6 hw) dPapers_give_79 ?_
    refine ev_iload dPapers_give_82 rfl ?_
    refine ev_iconst (-1) dPapers_give_84 (by decide) ?_
    obtain ⟨h16, H⟩ := H
    refine ev_iast hok (waPapers_6 hw) h16 dPapers_give_85 ?_
    generalize eI15 : q_u I13 (o + 7) ((I o 12) : Int32).toNatClampNeg (-1) = I15
    have H := H I15 eI15
    refine ev_aload_n dPapers_give_86 rfl ?_
    refine ev_getR hok fk_Papers_33 (woPapers hw) (fun _ _ _ => rfl) (wrPapers_7 hw) dPapers_give_87 ?_
    refine ev_iload dPapers_give_90 rfl ?_
    refine ev_aload_n dPapers_give_92 rfl ?_
    refine ev_getR hok fk_Papers_39 (woPapers hw) (fun _ _ _ => rfl) (wrPapers_9 hw) dPapers_give_93 ?_
    refine ev_iload dPapers_give_96 rfl ?_
    obtain ⟨h17, H⟩ := H
    refine ev_iald hok (waPapers_9 hw) h17 dPapers_give_98 ?_
    refine ev_iload dPapers_give_99 rfl ?_
    refine ev_icmp_gt 108 dPapers_give_101 (by decide) (fun c18 => ?_) (fun c18 => ?_)
    · have H := H.1 c18
      refine ev_iconst (0) dPapers_give_108 (by decide) ?_
      exact ev_sub [(0, .ref o), (1, .int x1), (2, .int x2), (3, .int x3), (4, .int x4), (5, .int x5), (6, .int x6), (7, .int ((I o 12)))] rfl (sPapers_give_109 o n sh Rf I15 L post x1 x2 x3 x4 x5 x6 (I o 12) 0 (I o 12) hok hw H)
    · have H := H.2 c18
      refine ev_iconst (1) dPapers_give_104 (by decide) ?_
      refine ev_goto 109 dPapers_give_105 (by decide) ?_
      exact ev_sub [(0, .ref o), (1, .int x1), (2, .int x2), (3, .int x3), (4, .int x4), (5, .int x5), (6, .int x6), (7, .int ((I o 12)))] rfl (sPapers_give_109 o n sh Rf I15 L post x1 x2 x3 x4 x5 x6 (I o 12) 1 (I o 12) hok hw H)
  · have H := H.2 c1
    exact ev_vret rfl dPapers_give_10 H
def fPapers_isWaiting_0 (D : va_G) (cA : FieldType → ClassId) (b : Nat) (E : State → Prop) (o : Nat) (n : Nat) (sh : Nat → qC) (Rf : Nat → Nat → Option Nat) (I : Nat → Nat → Int32) (L : Nat → Nat → Int64) (post : Option Value → qS → Prop) (x1 : Int32) : Prop :=
  vp_in x1 1440 ∧ ((¬ (I (o + 8) (x1 : Int32).toNatClampNeg) = 0 → post (some (.int 0)) (n, sh, Rf, I, L)) ∧ ((I (o + 8) (x1 : Int32).toNatClampNeg) = 0 → vp_in x1 1440 ∧ ((¬ (I (o + 7) (x1 : Int32).toNatClampNeg) = (-1) → post (some (.int 0)) (n, sh, Rf, I, L)) ∧ ((I (o + 7) (x1 : Int32).toNatClampNeg) = (-1) → post (some (.int 1)) (n, sh, Rf, I, L)))))
set_option maxHeartbeats 4000000 in
set_option maxRecDepth 20000 in
theorem sPapers_isWaiting_0 {D : va_G} {cA : FieldType → ClassId} {b : Nat} {E : State → Prop} (o : Nat) (n : Nat) (sh : Nat → qC) (Rf : Nat → Nat → Option Nat) (I : Nat → Nat → Int32) (L : Nat → Nat → Int64) (post : Option Value → qS → Prop) (x1 : Int32) (hok : q_ok (qGG D cA b E)) (hw : WfPapers (qGG D cA b E) n sh Rf o) (H : fPapers_isWaiting_0 D cA b E o n sh Rf I L post x1) : Ev (qGG D cA b E) mPapers_isWaiting 0 (0, 0) 0 [(0, .ref o), (1, .int x1)] [] (n, sh, Rf, I, L) post := by
  unfold fPapers_isWaiting_0 at H
  refine ev_aload_n dPapers_isWaiting_0 rfl ?_
  refine ev_getR hok fk_Papers_33 (woPapers hw) (fun _ _ _ => rfl) (wrPapers_7 hw) dPapers_isWaiting_1 ?_
  refine ev_iload_n dPapers_isWaiting_4 rfl ?_
  obtain ⟨h1, H⟩ := H
  refine ev_iald hok (waPapers_7 hw) h1 dPapers_isWaiting_5 ?_
  refine ev_if_ne 23 dPapers_isWaiting_6 (by decide) (fun c2 => ?_) (fun c2 => ?_)
  · have H := H.1 c2
    refine ev_iconst (0) dPapers_isWaiting_23 (by decide) ?_
    exact ev_zret rfl (by decide) dPapers_isWaiting_24 H
  · have H := H.2 c2
    refine ev_aload_n dPapers_isWaiting_9 rfl ?_
    refine ev_getR hok fk_Papers_30 (woPapers hw) (fun _ _ _ => rfl) (wrPapers_6 hw) dPapers_isWaiting_10 ?_
    refine ev_iload_n dPapers_isWaiting_13 rfl ?_
    obtain ⟨h3, H⟩ := H
    refine ev_iald hok (waPapers_6 hw) h3 dPapers_isWaiting_14 ?_
    refine ev_iconst (-1) dPapers_isWaiting_15 (by decide) ?_
    refine ev_icmp_ne 23 dPapers_isWaiting_16 (by decide) (fun c4 => ?_) (fun c4 => ?_)
    · have H := H.1 c4
      refine ev_iconst (0) dPapers_isWaiting_23 (by decide) ?_
      exact ev_zret rfl (by decide) dPapers_isWaiting_24 H
    · have H := H.2 c4
      refine ev_iconst (1) dPapers_isWaiting_19 (by decide) ?_
      refine ev_goto 24 dPapers_isWaiting_20 (by decide) ?_
      exact ev_zret rfl (by decide) dPapers_isWaiting_24 H
def fPapers_stopWaiting_0 (D : va_G) (cA : FieldType → ClassId) (b : Nat) (E : State → Prop) (o : Nat) (n : Nat) (sh : Nat → qC) (Rf : Nat → Nat → Option Nat) (I : Nat → Nat → Int32) (L : Nat → Nat → Int64) (post : Option Value → qS → Prop) (x1 : Int32) : Prop :=
  vp_in x1 1440 ∧ ∀ I2 : Nat → Nat → Int32, q_u I o 14 ((I o 14) - (I (o + 3) (x1 : Int32).toNatClampNeg)) = I2 → vp_in x1 1440 ∧ vp_in (I2 (o + 2) (x1 : Int32).toNatClampNeg) 3 ∧ vp_in x1 1440 ∧ vp_in (I2 (o + 2) (x1 : Int32).toNatClampNeg) 3 ∧ ∀ I6 : Nat → Nat → Int32, q_u I2 (o + 12) ((I2 (o + 2) (x1 : Int32).toNatClampNeg) : Int32).toNatClampNeg ((I2 (o + 12) ((I2 (o + 2) (x1 : Int32).toNatClampNeg) : Int32).toNatClampNeg) - (I2 (o + 3) (x1 : Int32).toNatClampNeg)) = I6 → post none (n, sh, Rf, I6, L)
set_option maxHeartbeats 4000000 in
set_option maxRecDepth 20000 in
theorem sPapers_stopWaiting_0 {D : va_G} {cA : FieldType → ClassId} {b : Nat} {E : State → Prop} (o : Nat) (n : Nat) (sh : Nat → qC) (Rf : Nat → Nat → Option Nat) (I : Nat → Nat → Int32) (L : Nat → Nat → Int64) (post : Option Value → qS → Prop) (x1 : Int32) (hok : q_ok (qGG D cA b E)) (hw : WfPapers (qGG D cA b E) n sh Rf o) (H : fPapers_stopWaiting_0 D cA b E o n sh Rf I L post x1) : Ev (qGG D cA b E) mPapers_stopWaiting 0 (0, 0) 0 [(0, .ref o), (1, .int x1)] [] (n, sh, Rf, I, L) post := by
  unfold fPapers_stopWaiting_0 at H
  refine ev_aload_n dPapers_stopWaiting_0 rfl ?_
  refine ev_dup dPapers_stopWaiting_1 rfl ?_
  refine ev_getI hok fk_Papers_55 (woPapers hw) (fun _ _ _ => rfl) dPapers_stopWaiting_2 ?_
  refine ev_aload_n dPapers_stopWaiting_5 rfl ?_
  refine ev_getR hok fk_Papers_18 (woPapers hw) (fun _ _ _ => rfl) (wrPapers_2 hw) dPapers_stopWaiting_6 ?_
  refine ev_iload_n dPapers_stopWaiting_9 rfl ?_
  obtain ⟨h1, H⟩ := H
  refine ev_iald hok (waPapers_2 hw) h1 dPapers_stopWaiting_10 ?_
  refine ev_isub dPapers_stopWaiting_11 ?_
  refine ev_putI hok fk_Papers_55 (woPapers hw) (fun _ _ _ => rfl) rfl rfl dPapers_stopWaiting_12 ?_
  generalize eI2 : q_u I o 14 ((I o 14) - (I (o + 3) (x1 : Int32).toNatClampNeg)) = I2
  have H := H I2 eI2
  refine ev_aload_n dPapers_stopWaiting_15 rfl ?_
  refine ev_getR hok fk_Papers_45 (woPapers hw) (fun _ _ _ => rfl) (wrPapers_11 hw) dPapers_stopWaiting_16 ?_
  refine ev_aload_n dPapers_stopWaiting_19 rfl ?_
  refine ev_getR hok fk_Papers_15 (woPapers hw) (fun _ _ _ => rfl) (wrPapers_1 hw) dPapers_stopWaiting_20 ?_
  refine ev_iload_n dPapers_stopWaiting_23 rfl ?_
  obtain ⟨h3, H⟩ := H
  refine ev_iald hok (waPapers_1 hw) h3 dPapers_stopWaiting_24 ?_
  refine ev_dup2_11 dPapers_stopWaiting_25 rfl rfl ?_
  obtain ⟨h4, H⟩ := H
  refine ev_iald hok (waPapers_11 hw) h4 dPapers_stopWaiting_26 ?_
  refine ev_aload_n dPapers_stopWaiting_27 rfl ?_
  refine ev_getR hok fk_Papers_18 (woPapers hw) (fun _ _ _ => rfl) (wrPapers_2 hw) dPapers_stopWaiting_28 ?_
  refine ev_iload_n dPapers_stopWaiting_31 rfl ?_
  obtain ⟨h5, H⟩ := H
  refine ev_iald hok (waPapers_2 hw) h5 dPapers_stopWaiting_32 ?_
  refine ev_isub dPapers_stopWaiting_33 ?_
  obtain ⟨h7, H⟩ := H
  refine ev_iast hok (waPapers_11 hw) h7 dPapers_stopWaiting_34 ?_
  generalize eI6 : q_u I2 (o + 12) ((I2 (o + 2) (x1 : Int32).toNatClampNeg) : Int32).toNatClampNeg ((I2 (o + 12) ((I2 (o + 2) (x1 : Int32).toNatClampNeg) : Int32).toNatClampNeg) - (I2 (o + 3) (x1 : Int32).toNatClampNeg)) = I6
  have H := H I6 eI6
  exact ev_vret rfl dPapers_stopWaiting_35 H
def fRealm_allSalt_4 (D : va_G) (cA : FieldType → ClassId) (b : Nat) (E : State → Prop) (o : Nat) (n : Nat) (sh : Nat → qC) (Rf : Nat → Nat → Option Nat) (I : Nat → Nat → Int32) (L : Nat → Nat → Int64) (post : Option Value → qS → Prop) (x1 : Int32) (x2 : Int32) (x3 : Int32) : Prop :=
  ((x1 ≤ x3 → post (some (.int x2)) (n, sh, Rf, I, L)) ∧ (¬ x1 ≤ x3 → ((3 ≤ x3 → post (some (.int x2)) (n, sh, Rf, I, L)) ∧ (¬ 3 ≤ x3 → vp_in x3 3 ∧ Ev (qGG D cA b E) mRealm_allSalt 0 (0, 0) 4 [(0, .ref o), (1, .int x1), (2, .int ((x2 + (I (o + 3) (x3 : Int32).toNatClampNeg)))), (3, .int ((x3 + Int32.ofInt 1)))] [] (n, sh, Rf, I, L) post))))
set_option maxHeartbeats 4000000 in
set_option maxRecDepth 20000 in
theorem sRealm_allSalt_4 {D : va_G} {cA : FieldType → ClassId} {b : Nat} {E : State → Prop} (o : Nat) (n : Nat) (sh : Nat → qC) (Rf : Nat → Nat → Option Nat) (I : Nat → Nat → Int32) (L : Nat → Nat → Int64) (post : Option Value → qS → Prop) (x1 : Int32) (x2 : Int32) (x3 : Int32) (hok : q_ok (qGG D cA b E)) (hw : WfRealm (qGG D cA b E) n sh Rf o) (H : fRealm_allSalt_4 D cA b E o n sh Rf I L post x1 x2 x3) : Ev (qGG D cA b E) mRealm_allSalt 0 (0, 0) 4 [(0, .ref o), (1, .int x1), (2, .int x2), (3, .int x3)] [] (n, sh, Rf, I, L) post := by
  unfold fRealm_allSalt_4 at H
  refine ev_iload_n dRealm_allSalt_4 rfl ?_
  refine ev_iload_n dRealm_allSalt_5 rfl ?_
  refine ev_icmp_ge 29 dRealm_allSalt_6 (by decide) (fun c1 => ?_) (fun c1 => ?_)
  · have H := H.1 c1
    refine ev_iload_n dRealm_allSalt_29 rfl ?_
    exact ev_iret rfl dRealm_allSalt_30 H
  · have H := H.2 c1
    refine ev_iload_n dRealm_allSalt_9 rfl ?_
    refine ev_iconst (3) dRealm_allSalt_10 (by decide) ?_
    refine ev_icmp_ge 29 dRealm_allSalt_11 (by decide) (fun c2 => ?_) (fun c2 => ?_)
    · have H := H.1 c2
      refine ev_iload_n dRealm_allSalt_29 rfl ?_
      exact ev_iret rfl dRealm_allSalt_30 H
    · have H := H.2 c2
      refine ev_iload_n dRealm_allSalt_14 rfl ?_
      refine ev_aload_n dRealm_allSalt_15 rfl ?_
      refine ev_getR hok fk_Realm_18 (woRealm hw) (fun _ _ _ => rfl) (wrRealm_2 hw) dRealm_allSalt_16 ?_
      refine ev_iload_n dRealm_allSalt_19 rfl ?_
      obtain ⟨h3, H⟩ := H
      refine ev_iald hok (waRealm_2 hw) h3 dRealm_allSalt_20 ?_
      refine ev_iadd dRealm_allSalt_21 ?_
      refine ev_istore_n dRealm_allSalt_22 (by decide) ?_
      refine ev_iinc dRealm_allSalt_23 rfl (by decide) ?_
      refine ev_goto 4 dRealm_allSalt_26 (by decide) ?_
      exact ev_sub [(0, .ref o), (1, .int x1), (2, .int ((x2 + (I (o + 3) (x3 : Int32).toNatClampNeg)))), (3, .int ((x3 + Int32.ofInt 1)))] rfl H
def fRealm_allSalt_0 (D : va_G) (cA : FieldType → ClassId) (b : Nat) (E : State → Prop) (o : Nat) (n : Nat) (sh : Nat → qC) (Rf : Nat → Nat → Option Nat) (I : Nat → Nat → Int32) (L : Nat → Nat → Int64) (post : Option Value → qS → Prop) (x1 : Int32) : Prop :=
  Ev (qGG D cA b E) mRealm_allSalt 0 (0, 0) 4 [(0, .ref o), (1, .int x1), (2, .int 0), (3, .int 0)] [] (n, sh, Rf, I, L) post
set_option maxHeartbeats 4000000 in
set_option maxRecDepth 20000 in
theorem sRealm_allSalt_0 {D : va_G} {cA : FieldType → ClassId} {b : Nat} {E : State → Prop} (o : Nat) (n : Nat) (sh : Nat → qC) (Rf : Nat → Nat → Option Nat) (I : Nat → Nat → Int32) (L : Nat → Nat → Int64) (post : Option Value → qS → Prop) (x1 : Int32) (hok : q_ok (qGG D cA b E)) (hw : WfRealm (qGG D cA b E) n sh Rf o) (H : fRealm_allSalt_0 D cA b E o n sh Rf I L post x1) : Ev (qGG D cA b E) mRealm_allSalt 0 (0, 0) 0 [(0, .ref o), (1, .int x1)] [] (n, sh, Rf, I, L) post := by
  unfold fRealm_allSalt_0 at H
  refine ev_iconst (0) dRealm_allSalt_0 (by decide) ?_
  refine ev_istore_n dRealm_allSalt_1 (by decide) ?_
  refine ev_iconst (0) dRealm_allSalt_2 (by decide) ?_
  refine ev_istore_n dRealm_allSalt_3 (by decide) ?_
  exact ev_sub [(0, .ref o), (1, .int x1), (2, .int 0), (3, .int 0)] rfl H
def fRecords_keepBook_0 (D : va_G) (cA : FieldType → ClassId) (b : Nat) (E : State → Prop) (o : Nat) (n : Nat) (sh : Nat → qC) (Rf : Nat → Nat → Option Nat) (I : Nat → Nat → Int32) (L : Nat → Nat → Int64) (post : Option Value → qS → Prop) (x1 : Int32) (x2 : Int32) (x3 : Int64) (x5 : Int32) (x6 : Int64) : Prop :=
  vp_in (((x2 * 6) + x1) * 3) 4320 ∧ ∀ L1 : Nat → Nat → Int64, q_u L (o + 4) ((((x2 * 6) + x1) * 3) : Int32).toNatClampNeg x3 = L1 → vp_in ((((x2 * 6) + x1) * 3) + 1) 4320 ∧ ∀ L3 : Nat → Nat → Int64, q_u L1 (o + 4) (((((x2 * 6) + x1) * 3) + 1) : Int32).toNatClampNeg ((x5 : Int32).toInt64) = L3 → vp_in ((((x2 * 6) + x1) * 3) + 2) 4320 ∧ ∀ L5 : Nat → Nat → Int64, q_u L3 (o + 4) (((((x2 * 6) + x1) * 3) + 2) : Int32).toNatClampNeg x6 = L5 → post none (n, sh, Rf, I, L5)
set_option maxHeartbeats 4000000 in
set_option maxRecDepth 20000 in
theorem sRecords_keepBook_0 {D : va_G} {cA : FieldType → ClassId} {b : Nat} {E : State → Prop} (o : Nat) (n : Nat) (sh : Nat → qC) (Rf : Nat → Nat → Option Nat) (I : Nat → Nat → Int32) (L : Nat → Nat → Int64) (post : Option Value → qS → Prop) (x1 : Int32) (x2 : Int32) (x3 : Int64) (x5 : Int32) (x6 : Int64) (hok : q_ok (qGG D cA b E)) (hw : WfRecords (qGG D cA b E) n sh Rf o) (H : fRecords_keepBook_0 D cA b E o n sh Rf I L post x1 x2 x3 x5 x6) : Ev (qGG D cA b E) mRecords_keepBook 0 (0, 0) 0 [(0, .ref o), (1, .int x1), (2, .int x2), (3, .long x3), (5, .int x5), (6, .long x6)] [] (n, sh, Rf, I, L) post := by
  unfold fRecords_keepBook_0 at H
  refine ev_iload_n dRecords_keepBook_0 rfl ?_
  refine ev_bipush (6) dRecords_keepBook_1 (by decide) ?_
  refine ev_imul dRecords_keepBook_3 ?_
  refine ev_iload_n dRecords_keepBook_4 rfl ?_
  refine ev_iadd dRecords_keepBook_5 ?_
  refine ev_iconst (3) dRecords_keepBook_6 (by decide) ?_
  refine ev_imul dRecords_keepBook_7 ?_
  refine ev_istore dRecords_keepBook_8 (by decide) ?_
  refine ev_aload_n dRecords_keepBook_10 rfl ?_
  refine ev_getR hok fk_Records_21 (woRecords hw) (fun _ _ _ => rfl) (wrRecords_3 hw) dRecords_keepBook_11 ?_
  refine ev_iload dRecords_keepBook_14 rfl ?_
  refine ev_lload_n dRecords_keepBook_16 rfl ?_
  obtain ⟨h2, H⟩ := H
  refine ev_last hok (waRecords_3 hw) h2 dRecords_keepBook_17 ?_
  generalize eL1 : q_u L (o + 4) ((((x2 * 6) + x1) * 3) : Int32).toNatClampNeg x3 = L1
  have H := H L1 eL1
  refine ev_aload_n dRecords_keepBook_18 rfl ?_
  refine ev_getR hok fk_Records_21 (woRecords hw) (fun _ _ _ => rfl) (wrRecords_3 hw) dRecords_keepBook_19 ?_
  refine ev_iload dRecords_keepBook_22 rfl ?_
  refine ev_iconst (1) dRecords_keepBook_24 (by decide) ?_
  refine ev_iadd dRecords_keepBook_25 ?_
  refine ev_iload dRecords_keepBook_26 rfl ?_
  refine ev_i2l dRecords_keepBook_28 ?_
  obtain ⟨h4, H⟩ := H
  refine ev_last hok (waRecords_3 hw) h4 dRecords_keepBook_29 ?_
  generalize eL3 : q_u L1 (o + 4) (((((x2 * 6) + x1) * 3) + 1) : Int32).toNatClampNeg ((x5 : Int32).toInt64) = L3
  have H := H L3 eL3
  refine ev_aload_n dRecords_keepBook_30 rfl ?_
  refine ev_getR hok fk_Records_21 (woRecords hw) (fun _ _ _ => rfl) (wrRecords_3 hw) dRecords_keepBook_31 ?_
  refine ev_iload dRecords_keepBook_34 rfl ?_
  refine ev_iconst (2) dRecords_keepBook_36 (by decide) ?_
  refine ev_iadd dRecords_keepBook_37 ?_
  refine ev_lload dRecords_keepBook_38 rfl ?_
  obtain ⟨h6, H⟩ := H
  refine ev_last hok (waRecords_3 hw) h6 dRecords_keepBook_40 ?_
  generalize eL5 : q_u L3 (o + 4) (((((x2 * 6) + x1) * 3) + 2) : Int32).toNatClampNeg x6 = L5
  have H := H L5 eL5
  exact ev_vret rfl dRecords_keepBook_41 H
def fReform_emit_0 (D : va_G) (cA : FieldType → ClassId) (b : Nat) (E : State → Prop) (o : Nat) (n : Nat) (sh : Nat → qC) (Rf : Nat → Nat → Option Nat) (I : Nat → Nat → Int32) (L : Nat → Nat → Int64) (post : Option Value → qS → Prop) (x1 : Int32) : Prop :=
  ((700 ≤ (I o 4) → post none (n, sh, Rf, I, L)) ∧ (¬ 700 ≤ (I o 4) → vp_in (I o 4) 700 ∧ ∀ I2 : Nat → Nat → Int32, q_u I (o + 1) ((I o 4) : Int32).toNatClampNeg x1 = I2 → ∀ I4 : Nat → Nat → Int32, q_u I2 o 4 ((I2 o 4) + 1) = I4 → post none (n, sh, Rf, I4, L)))
set_option maxHeartbeats 4000000 in
set_option maxRecDepth 20000 in
theorem sReform_emit_0 {D : va_G} {cA : FieldType → ClassId} {b : Nat} {E : State → Prop} (o : Nat) (n : Nat) (sh : Nat → qC) (Rf : Nat → Nat → Option Nat) (I : Nat → Nat → Int32) (L : Nat → Nat → Int64) (post : Option Value → qS → Prop) (x1 : Int32) (hok : q_ok (qGG D cA b E)) (hw : WfReform (qGG D cA b E) n sh Rf o) (H : fReform_emit_0 D cA b E o n sh Rf I L post x1) : Ev (qGG D cA b E) mReform_emit 0 (0, 0) 0 [(0, .ref o), (1, .int x1)] [] (n, sh, Rf, I, L) post := by
  unfold fReform_emit_0 at H
  refine ev_aload_n dReform_emit_0 rfl ?_
  refine ev_getI hok fk_Reform_24 (woReform hw) (fun _ _ _ => rfl) dReform_emit_1 ?_
  refine ev_sipush (700) dReform_emit_4 (by decide) ?_
  refine ev_icmp_ge 30 dReform_emit_7 (by decide) (fun c1 => ?_) (fun c1 => ?_)
  · have H := H.1 c1
    exact ev_vret rfl dReform_emit_30 H
  · have H := H.2 c1
    refine ev_aload_n dReform_emit_10 rfl ?_
    refine ev_getR hok fk_Reform_9 (woReform hw) (fun _ _ _ => rfl) (wrReform_0 hw) dReform_emit_11 ?_
    refine ev_aload_n dReform_emit_14 rfl ?_
    refine ev_getI hok fk_Reform_24 (woReform hw) (fun _ _ _ => rfl) dReform_emit_15 ?_
    refine ev_iload_n dReform_emit_18 rfl ?_
    obtain ⟨h3, H⟩ := H
    refine ev_iast hok (waReform_0 hw) h3 dReform_emit_19 ?_
    generalize eI2 : q_u I (o + 1) ((I o 4) : Int32).toNatClampNeg x1 = I2
    have H := H I2 eI2
    refine ev_aload_n dReform_emit_20 rfl ?_
    refine ev_dup dReform_emit_21 rfl ?_
    refine ev_getI hok fk_Reform_24 (woReform hw) (fun _ _ _ => rfl) dReform_emit_22 ?_
    refine ev_iconst (1) dReform_emit_25 (by decide) ?_
    refine ev_iadd dReform_emit_26 ?_
    refine ev_putI hok fk_Reform_24 (woReform hw) (fun _ _ _ => rfl) rfl rfl dReform_emit_27 ?_
    generalize eI4 : q_u I2 o 4 ((I2 o 4) + 1) = I4
    have H := H I4 eI4
    exact ev_vret rfl dReform_emit_30 H
def fReform_isAsked_11 (D : va_G) (cA : FieldType → ClassId) (b : Nat) (E : State → Prop) (n : Nat) (sh : Nat → qC) (Rf : Nat → Nat → Option Nat) (I : Nat → Nat → Int32) (L : Nat → Nat → Int64) (post : Option Value → qS → Prop) (x0 : Int32) : Prop :=
  post (some (.int 1)) (n, sh, Rf, I, L)
set_option maxHeartbeats 4000000 in
set_option maxRecDepth 20000 in
theorem sReform_isAsked_11 {D : va_G} {cA : FieldType → ClassId} {b : Nat} {E : State → Prop} (n : Nat) (sh : Nat → qC) (Rf : Nat → Nat → Option Nat) (I : Nat → Nat → Int32) (L : Nat → Nat → Int64) (post : Option Value → qS → Prop) (x0 : Int32) (hok : q_ok (qGG D cA b E)) (H : fReform_isAsked_11 D cA b E n sh Rf I L post x0) : Ev (qGG D cA b E) mReform_isAsked 0 (0, 0) 11 [(0, .int x0)] [] (n, sh, Rf, I, L) post := by
  unfold fReform_isAsked_11 at H
  refine ev_iconst (1) dReform_isAsked_11 (by decide) ?_
  refine ev_goto 16 dReform_isAsked_12 (by decide) ?_
  exact ev_zret rfl (by decide) dReform_isAsked_16 H
def fReform_isAsked_0 (D : va_G) (cA : FieldType → ClassId) (b : Nat) (E : State → Prop) (n : Nat) (sh : Nat → qC) (Rf : Nat → Nat → Option Nat) (I : Nat → Nat → Int32) (L : Nat → Nat → Int64) (post : Option Value → qS → Prop) (x0 : Int32) : Prop :=
  ((x0 = 4 → fReform_isAsked_11 D cA b E n sh Rf I L post x0) ∧ (¬ x0 = 4 → ((x0 < 23 → post (some (.int 0)) (n, sh, Rf, I, L)) ∧ (¬ x0 < 23 → fReform_isAsked_11 D cA b E n sh Rf I L post x0))))
set_option maxHeartbeats 4000000 in
set_option maxRecDepth 20000 in
theorem sReform_isAsked_0 {D : va_G} {cA : FieldType → ClassId} {b : Nat} {E : State → Prop} (n : Nat) (sh : Nat → qC) (Rf : Nat → Nat → Option Nat) (I : Nat → Nat → Int32) (L : Nat → Nat → Int64) (post : Option Value → qS → Prop) (x0 : Int32) (hok : q_ok (qGG D cA b E)) (H : fReform_isAsked_0 D cA b E n sh Rf I L post x0) : Ev (qGG D cA b E) mReform_isAsked 0 (0, 0) 0 [(0, .int x0)] [] (n, sh, Rf, I, L) post := by
  unfold fReform_isAsked_0 at H
  refine ev_iload_n dReform_isAsked_0 rfl ?_
  refine ev_iconst (4) dReform_isAsked_1 (by decide) ?_
  refine ev_icmp_eq 11 dReform_isAsked_2 (by decide) (fun c1 => ?_) (fun c1 => ?_)
  · have H := H.1 c1
    exact ev_sub [(0, .int x0)] rfl (sReform_isAsked_11 n sh Rf I L post x0 hok H)
  · have H := H.2 c1
    refine ev_iload_n dReform_isAsked_5 rfl ?_
    refine ev_bipush (23) dReform_isAsked_6 (by decide) ?_
    refine ev_icmp_lt 15 dReform_isAsked_8 (by decide) (fun c2 => ?_) (fun c2 => ?_)
    · have H := H.1 c2
      refine ev_iconst (0) dReform_isAsked_15 (by decide) ?_
      exact ev_zret rfl (by decide) dReform_isAsked_16 H
    · have H := H.2 c2
      exact ev_sub [(0, .int x0)] rfl (sReform_isAsked_11 n sh Rf I L post x0 hok H)
def fReform_isJoint_24 (D : va_G) (cA : FieldType → ClassId) (b : Nat) (E : State → Prop) (n : Nat) (sh : Nat → qC) (Rf : Nat → Nat → Option Nat) (I : Nat → Nat → Int32) (L : Nat → Nat → Int64) (post : Option Value → qS → Prop) (x0 : Int32) : Prop :=
  post (some (.int 1)) (n, sh, Rf, I, L)
set_option maxHeartbeats 4000000 in
set_option maxRecDepth 20000 in
theorem sReform_isJoint_24 {D : va_G} {cA : FieldType → ClassId} {b : Nat} {E : State → Prop} (n : Nat) (sh : Nat → qC) (Rf : Nat → Nat → Option Nat) (I : Nat → Nat → Int32) (L : Nat → Nat → Int64) (post : Option Value → qS → Prop) (x0 : Int32) (hok : q_ok (qGG D cA b E)) (H : fReform_isJoint_24 D cA b E n sh Rf I L post x0) : Ev (qGG D cA b E) mReform_isJoint 0 (0, 0) 24 [(0, .int x0)] [] (n, sh, Rf, I, L) post := by
  unfold fReform_isJoint_24 at H
  refine ev_iconst (1) dReform_isJoint_24 (by decide) ?_
  refine ev_goto 29 dReform_isJoint_25 (by decide) ?_
  exact ev_zret rfl (by decide) dReform_isJoint_29 H
def fReform_isJoint_0 (D : va_G) (cA : FieldType → ClassId) (b : Nat) (E : State → Prop) (n : Nat) (sh : Nat → qC) (Rf : Nat → Nat → Option Nat) (I : Nat → Nat → Int32) (L : Nat → Nat → Int64) (post : Option Value → qS → Prop) (x0 : Int32) : Prop :=
  ((x0 = 20 → fReform_isJoint_24 D cA b E n sh Rf I L post x0) ∧ (¬ x0 = 20 → ((x0 = 21 → fReform_isJoint_24 D cA b E n sh Rf I L post x0) ∧ (¬ x0 = 21 → ((x0 < 32 → post (some (.int 0)) (n, sh, Rf, I, L)) ∧ (¬ x0 < 32 → ((64 ≤ x0 → post (some (.int 0)) (n, sh, Rf, I, L)) ∧ (¬ 64 ≤ x0 → fReform_isJoint_24 D cA b E n sh Rf I L post x0))))))))
set_option maxHeartbeats 4000000 in
set_option maxRecDepth 20000 in
theorem sReform_isJoint_0 {D : va_G} {cA : FieldType → ClassId} {b : Nat} {E : State → Prop} (n : Nat) (sh : Nat → qC) (Rf : Nat → Nat → Option Nat) (I : Nat → Nat → Int32) (L : Nat → Nat → Int64) (post : Option Value → qS → Prop) (x0 : Int32) (hok : q_ok (qGG D cA b E)) (H : fReform_isJoint_0 D cA b E n sh Rf I L post x0) : Ev (qGG D cA b E) mReform_isJoint 0 (0, 0) 0 [(0, .int x0)] [] (n, sh, Rf, I, L) post := by
  unfold fReform_isJoint_0 at H
  refine ev_iload_n dReform_isJoint_0 rfl ?_
  refine ev_bipush (20) dReform_isJoint_1 (by decide) ?_
  refine ev_icmp_eq 24 dReform_isJoint_3 (by decide) (fun c1 => ?_) (fun c1 => ?_)
  · have H := H.1 c1
    exact ev_sub [(0, .int x0)] rfl (sReform_isJoint_24 n sh Rf I L post x0 hok H)
  · have H := H.2 c1
    refine ev_iload_n dReform_isJoint_6 rfl ?_
    refine ev_bipush (21) dReform_isJoint_7 (by decide) ?_
    refine ev_icmp_eq 24 dReform_isJoint_9 (by decide) (fun c2 => ?_) (fun c2 => ?_)
    · have H := H.1 c2
      exact ev_sub [(0, .int x0)] rfl (sReform_isJoint_24 n sh Rf I L post x0 hok H)
    · have H := H.2 c2
      refine ev_iload_n dReform_isJoint_12 rfl ?_
      refine ev_bipush (32) dReform_isJoint_13 (by decide) ?_
      refine ev_icmp_lt 28 dReform_isJoint_15 (by decide) (fun c3 => ?_) (fun c3 => ?_)
      · have H := H.1 c3
        refine ev_iconst (0) dReform_isJoint_28 (by decide) ?_
        exact ev_zret rfl (by decide) dReform_isJoint_29 H
      · have H := H.2 c3
        refine ev_iload_n dReform_isJoint_18 rfl ?_
        refine ev_bipush (64) dReform_isJoint_19 (by decide) ?_
        refine ev_icmp_ge 28 dReform_isJoint_21 (by decide) (fun c4 => ?_) (fun c4 => ?_)
        · have H := H.1 c4
          refine ev_iconst (0) dReform_isJoint_28 (by decide) ?_
          exact ev_zret rfl (by decide) dReform_isJoint_29 H
        · have H := H.2 c4
          exact ev_sub [(0, .int x0)] rfl (sReform_isJoint_24 n sh Rf I L post x0 hok H)
def fReform_join_163 (D : va_G) (cA : FieldType → ClassId) (b : Nat) (E : State → Prop) (n : Nat) (sh : Nat → qC) (Rf : Nat → Nat → Option Nat) (I : Nat → Nat → Int32) (L : Nat → Nat → Int64) (post : Option Value → qS → Prop) (x0 : Int32) (x1 : Int32) (x2 : Int32) : Prop :=
  post (some (.int 1)) (n, sh, Rf, I, L)
set_option maxHeartbeats 4000000 in
set_option maxRecDepth 20000 in
theorem sReform_join_163 {D : va_G} {cA : FieldType → ClassId} {b : Nat} {E : State → Prop} (n : Nat) (sh : Nat → qC) (Rf : Nat → Nat → Option Nat) (I : Nat → Nat → Int32) (L : Nat → Nat → Int64) (post : Option Value → qS → Prop) (x0 : Int32) (x1 : Int32) (x2 : Int32) (hok : q_ok (qGG D cA b E)) (H : fReform_join_163 D cA b E n sh Rf I L post x0 x1 x2) : Ev (qGG D cA b E) mReform_join 0 (0, 0) 163 [(0, .int x0), (1, .int x1), (2, .int x2)] [] (n, sh, Rf, I, L) post := by
  unfold fReform_join_163 at H
  refine ev_iconst (1) dReform_join_163 (by decide) ?_
  refine ev_goto 168 dReform_join_164 (by decide) ?_
  exact ev_iret rfl dReform_join_168 H
def fReform_join_0 (D : va_G) (cA : FieldType → ClassId) (b : Nat) (E : State → Prop) (n : Nat) (sh : Nat → qC) (Rf : Nat → Nat → Option Nat) (I : Nat → Nat → Int32) (L : Nat → Nat → Int64) (post : Option Value → qS → Prop) (x0 : Int32) (x1 : Int32) (x2 : Int32) : Prop :=
  ((x0 = (20 : Int32) → ((x1 = 0 → post (some (.int 0)) (n, sh, Rf, I, L)) ∧ (¬ x1 = 0 → ((x2 = 0 → post (some (.int 0)) (n, sh, Rf, I, L)) ∧ (¬ x2 = 0 → post (some (.int 1)) (n, sh, Rf, I, L)))))) ∧ (¬ x0 = (20 : Int32) → ((x0 = (21 : Int32) → ((¬ x1 = 0 → fReform_join_163 D cA b E n sh Rf I L post x0 x1 x2) ∧ (x1 = 0 → ((x2 = 0 → post (some (.int 0)) (n, sh, Rf, I, L)) ∧ (¬ x2 = 0 → fReform_join_163 D cA b E n sh Rf I L post x0 x1 x2))))) ∧ (¬ x0 = (21 : Int32) → ((x0 = (42 : Int32) → post (some (.int ((x1 * x2)))) (n, sh, Rf, I, L)) ∧ (¬ x0 = (42 : Int32) → ((x0 = (43 : Int32) → post (some (.int ((x1 + x2)))) (n, sh, Rf, I, L)) ∧ (¬ x0 = (43 : Int32) → ((x0 = (45 : Int32) → post (some (.int ((x1 - x2)))) (n, sh, Rf, I, L)) ∧ (¬ x0 = (45 : Int32) → ((x0 = (47 : Int32) → ((¬ x2 = 0 → (¬ (x2 : Int32) = 0) ∧ post (some (.int ((x1 / x2)))) (n, sh, Rf, I, L)) ∧ (x2 = 0 → post (some (.int 0)) (n, sh, Rf, I, L)))) ∧ (¬ x0 = (47 : Int32) → ((x0 = (60 : Int32) → ((x2 ≤ x1 → post (some (.int 0)) (n, sh, Rf, I, L)) ∧ (¬ x2 ≤ x1 → post (some (.int 1)) (n, sh, Rf, I, L)))) ∧ (¬ x0 = (60 : Int32) → ((x0 = (61 : Int32) → ((¬ x1 = x2 → post (some (.int 0)) (n, sh, Rf, I, L)) ∧ (x1 = x2 → post (some (.int 1)) (n, sh, Rf, I, L)))) ∧ (¬ x0 = (61 : Int32) → ((x0 = (62 : Int32) → ((x1 ≤ x2 → post (some (.int 0)) (n, sh, Rf, I, L)) ∧ (¬ x1 ≤ x2 → post (some (.int 1)) (n, sh, Rf, I, L)))) ∧ (¬ x0 = (62 : Int32) → post (some (.int 0)) (n, sh, Rf, I, L)))))))))))))))))))
set_option maxHeartbeats 4000000 in
set_option maxRecDepth 20000 in
theorem sReform_join_0 {D : va_G} {cA : FieldType → ClassId} {b : Nat} {E : State → Prop} (n : Nat) (sh : Nat → qC) (Rf : Nat → Nat → Option Nat) (I : Nat → Nat → Int32) (L : Nat → Nat → Int64) (post : Option Value → qS → Prop) (x0 : Int32) (x1 : Int32) (x2 : Int32) (hok : q_ok (qGG D cA b E)) (H : fReform_join_0 D cA b E n sh Rf I L post x0 x1 x2) : Ev (qGG D cA b E) mReform_join 0 (0, 0) 0 [(0, .int x0), (1, .int x1), (2, .int x2)] [] (n, sh, Rf, I, L) post := by
  unfold fReform_join_0 at H
  refine ev_iload_n dReform_join_0 rfl ?_
  rcases q_em (x0 = (20)) with c0 | c0
  · have H := H.1 c0
    refine ev_lookup 141 dReform_join_1 (by decide) (off := 140) (by rw [c0]; decide) (by decide) ?_
    refine ev_iload_n dReform_join_141 rfl ?_
    refine ev_if_eq 153 dReform_join_142 (by decide) (fun c1 => ?_) (fun c1 => ?_)
    · have H := H.1 c1
      refine ev_iconst (0) dReform_join_153 (by decide) ?_
      exact ev_iret rfl dReform_join_154 H
    · have H := H.2 c1
      refine ev_iload_n dReform_join_145 rfl ?_
      refine ev_if_eq 153 dReform_join_146 (by decide) (fun c2 => ?_) (fun c2 => ?_)
      · have H := H.1 c2
        refine ev_iconst (0) dReform_join_153 (by decide) ?_
        exact ev_iret rfl dReform_join_154 H
      · have H := H.2 c2
        refine ev_iconst (1) dReform_join_149 (by decide) ?_
        refine ev_goto 154 dReform_join_150 (by decide) ?_
        exact ev_iret rfl dReform_join_154 H
  have H := H.2 c0
  rcases q_em (x0 = (21)) with c1 | c1
  · have H := H.1 c1
    refine ev_lookup 155 dReform_join_1 (by decide) (off := 154) (by rw [c1]; decide) (by decide) ?_
    refine ev_iload_n dReform_join_155 rfl ?_
    refine ev_if_ne 163 dReform_join_156 (by decide) (fun c3 => ?_) (fun c3 => ?_)
    · have H := H.1 c3
      exact ev_sub [(0, .int x0), (1, .int x1), (2, .int x2)] rfl (sReform_join_163 n sh Rf I L post x0 x1 x2 hok H)
    · have H := H.2 c3
      refine ev_iload_n dReform_join_159 rfl ?_
      refine ev_if_eq 167 dReform_join_160 (by decide) (fun c4 => ?_) (fun c4 => ?_)
      · have H := H.1 c4
        refine ev_iconst (0) dReform_join_167 (by decide) ?_
        exact ev_iret rfl dReform_join_168 H
      · have H := H.2 c4
        exact ev_sub [(0, .int x0), (1, .int x1), (2, .int x2)] rfl (sReform_join_163 n sh Rf I L post x0 x1 x2 hok H)
  have H := H.2 c1
  rcases q_em (x0 = (42)) with c2 | c2
  · have H := H.1 c2
    refine ev_lookup 92 dReform_join_1 (by decide) (off := 91) (by rw [c2]; decide) (by decide) ?_
    refine ev_iload_n dReform_join_92 rfl ?_
    refine ev_iload_n dReform_join_93 rfl ?_
    refine ev_imul dReform_join_94 ?_
    exact ev_iret rfl dReform_join_95 H
  have H := H.2 c2
  rcases q_em (x0 = (43)) with c3 | c3
  · have H := H.1 c3
    refine ev_lookup 84 dReform_join_1 (by decide) (off := 83) (by rw [c3]; decide) (by decide) ?_
    refine ev_iload_n dReform_join_84 rfl ?_
    refine ev_iload_n dReform_join_85 rfl ?_
    refine ev_iadd dReform_join_86 ?_
    exact ev_iret rfl dReform_join_87 H
  have H := H.2 c3
  rcases q_em (x0 = (45)) with c4 | c4
  · have H := H.1 c4
    refine ev_lookup 88 dReform_join_1 (by decide) (off := 87) (by rw [c4]; decide) (by decide) ?_
    refine ev_iload_n dReform_join_88 rfl ?_
    refine ev_iload_n dReform_join_89 rfl ?_
    refine ev_isub dReform_join_90 ?_
    exact ev_iret rfl dReform_join_91 H
  have H := H.2 c4
  rcases q_em (x0 = (47)) with c5 | c5
  · have H := H.1 c5
    refine ev_lookup 96 dReform_join_1 (by decide) (off := 95) (by rw [c5]; decide) (by decide) ?_
    refine ev_iload_n dReform_join_96 rfl ?_
    refine ev_if_ne 104 dReform_join_97 (by decide) (fun c5 => ?_) (fun c5 => ?_)
    · have H := H.1 c5
      refine ev_iload_n dReform_join_104 rfl ?_
      refine ev_iload_n dReform_join_105 rfl ?_
      obtain ⟨h6, H⟩ := H
      refine ev_idiv dReform_join_106 h6 ?_
      exact ev_iret rfl dReform_join_107 H
    · have H := H.2 c5
      refine ev_iconst (0) dReform_join_100 (by decide) ?_
      refine ev_goto 107 dReform_join_101 (by decide) ?_
      exact ev_iret rfl dReform_join_107 H
  have H := H.2 c5
  rcases q_em (x0 = (60)) with c6 | c6
  · have H := H.1 c6
    refine ev_lookup 108 dReform_join_1 (by decide) (off := 107) (by rw [c6]; decide) (by decide) ?_
    refine ev_iload_n dReform_join_108 rfl ?_
    refine ev_iload_n dReform_join_109 rfl ?_
    refine ev_icmp_ge 117 dReform_join_110 (by decide) (fun c7 => ?_) (fun c7 => ?_)
    · have H := H.1 c7
      refine ev_iconst (0) dReform_join_117 (by decide) ?_
      exact ev_iret rfl dReform_join_118 H
    · have H := H.2 c7
      refine ev_iconst (1) dReform_join_113 (by decide) ?_
      refine ev_goto 118 dReform_join_114 (by decide) ?_
      exact ev_iret rfl dReform_join_118 H
  have H := H.2 c6
  rcases q_em (x0 = (61)) with c7 | c7
  · have H := H.1 c7
    refine ev_lookup 130 dReform_join_1 (by decide) (off := 129) (by rw [c7]; decide) (by decide) ?_
    refine ev_iload_n dReform_join_130 rfl ?_
    refine ev_iload_n dReform_join_131 rfl ?_
    refine ev_icmp_ne 139 dReform_join_132 (by decide) (fun c8 => ?_) (fun c8 => ?_)
    · have H := H.1 c8
      refine ev_iconst (0) dReform_join_139 (by decide) ?_
      exact ev_iret rfl dReform_join_140 H
    · have H := H.2 c8
      refine ev_iconst (1) dReform_join_135 (by decide) ?_
      refine ev_goto 140 dReform_join_136 (by decide) ?_
      exact ev_iret rfl dReform_join_140 H
  have H := H.2 c7
  rcases q_em (x0 = (62)) with c8 | c8
  · have H := H.1 c8
    refine ev_lookup 119 dReform_join_1 (by decide) (off := 118) (by rw [c8]; decide) (by decide) ?_
    refine ev_iload_n dReform_join_119 rfl ?_
    refine ev_iload_n dReform_join_120 rfl ?_
    refine ev_icmp_le 128 dReform_join_121 (by decide) (fun c9 => ?_) (fun c9 => ?_)
    · have H := H.1 c9
      refine ev_iconst (0) dReform_join_128 (by decide) ?_
      exact ev_iret rfl dReform_join_129 H
    · have H := H.2 c9
      refine ev_iconst (1) dReform_join_124 (by decide) ?_
      refine ev_goto 129 dReform_join_125 (by decide) ?_
      exact ev_iret rfl dReform_join_129 H
  have H := H.2 c8
  refine ev_lookup 169 dReform_join_1 (by decide) (off := 168) (by have e0 : (20 : Int) ≠ (x0 : Int32).toInt := fun h => c0 (Int32.toInt_inj.mp (h.symm.trans (by decide))); have e1 : (21 : Int) ≠ (x0 : Int32).toInt := fun h => c1 (Int32.toInt_inj.mp (h.symm.trans (by decide))); have e2 : (42 : Int) ≠ (x0 : Int32).toInt := fun h => c2 (Int32.toInt_inj.mp (h.symm.trans (by decide))); have e3 : (43 : Int) ≠ (x0 : Int32).toInt := fun h => c3 (Int32.toInt_inj.mp (h.symm.trans (by decide))); have e4 : (45 : Int) ≠ (x0 : Int32).toInt := fun h => c4 (Int32.toInt_inj.mp (h.symm.trans (by decide))); have e5 : (47 : Int) ≠ (x0 : Int32).toInt := fun h => c5 (Int32.toInt_inj.mp (h.symm.trans (by decide))); have e6 : (60 : Int) ≠ (x0 : Int32).toInt := fun h => c6 (Int32.toInt_inj.mp (h.symm.trans (by decide))); have e7 : (61 : Int) ≠ (x0 : Int32).toInt := fun h => c7 (Int32.toInt_inj.mp (h.symm.trans (by decide))); have e8 : (62 : Int) ≠ (x0 : Int32).toInt := fun h => c8 (Int32.toInt_inj.mp (h.symm.trans (by decide))); simp [Op.lookupswitch.offset, *]) (by decide) ?_
  refine ev_iconst (0) dReform_join_169 (by decide) ?_
  exact ev_iret rfl dReform_join_170 H
def fReform_mayAsk_95 (D : va_G) (cA : FieldType → ClassId) (b : Nat) (E : State → Prop) (o : Nat) (n : Nat) (sh : Nat → qC) (Rf : Nat → Nat → Option Nat) (I : Nat → Nat → Int32) (L : Nat → Nat → Int64) (post : Option Value → qS → Prop) (x1 : Int32) : Prop :=
  (((I o 8) < 6 → post (some (.int 0)) (n, sh, Rf, I, L)) ∧ (¬ (I o 8) < 6 → post (some (.int 1)) (n, sh, Rf, I, L)))
set_option maxHeartbeats 4000000 in
set_option maxRecDepth 20000 in
theorem sReform_mayAsk_95 {D : va_G} {cA : FieldType → ClassId} {b : Nat} {E : State → Prop} (o : Nat) (n : Nat) (sh : Nat → qC) (Rf : Nat → Nat → Option Nat) (I : Nat → Nat → Int32) (L : Nat → Nat → Int64) (post : Option Value → qS → Prop) (x1 : Int32) (hok : q_ok (qGG D cA b E)) (hw : WfReform (qGG D cA b E) n sh Rf o) (H : fReform_mayAsk_95 D cA b E o n sh Rf I L post x1) : Ev (qGG D cA b E) mReform_mayAsk 0 (0, 0) 95 [(0, .ref o), (1, .int x1)] [] (n, sh, Rf, I, L) post := by
  unfold fReform_mayAsk_95 at H
  refine ev_aload_n dReform_mayAsk_95 rfl ?_
  refine ev_getI hok fk_Reform_37 (woReform hw) (fun _ _ _ => rfl) dReform_mayAsk_96 ?_
  refine ev_bipush (6) dReform_mayAsk_99 (by decide) ?_
  refine ev_icmp_lt 108 dReform_mayAsk_101 (by decide) (fun c1 => ?_) (fun c1 => ?_)
  · have H := H.1 c1
    refine ev_iconst (0) dReform_mayAsk_108 (by decide) ?_
    exact ev_zret rfl (by decide) dReform_mayAsk_109 H
  · have H := H.2 c1
    refine ev_iconst (1) dReform_mayAsk_104 (by decide) ?_
    refine ev_goto 109 dReform_mayAsk_105 (by decide) ?_
    exact ev_zret rfl (by decide) dReform_mayAsk_109 H
def fReform_mayAsk_89 (D : va_G) (cA : FieldType → ClassId) (b : Nat) (E : State → Prop) (o : Nat) (n : Nat) (sh : Nat → qC) (Rf : Nat → Nat → Option Nat) (I : Nat → Nat → Int32) (L : Nat → Nat → Int64) (post : Option Value → qS → Prop) (x1 : Int32) : Prop :=
  post (some (.int 1)) (n, sh, Rf, I, L)
set_option maxHeartbeats 4000000 in
set_option maxRecDepth 20000 in
theorem sReform_mayAsk_89 {D : va_G} {cA : FieldType → ClassId} {b : Nat} {E : State → Prop} (o : Nat) (n : Nat) (sh : Nat → qC) (Rf : Nat → Nat → Option Nat) (I : Nat → Nat → Int32) (L : Nat → Nat → Int64) (post : Option Value → qS → Prop) (x1 : Int32) (hok : q_ok (qGG D cA b E)) (hw : WfReform (qGG D cA b E) n sh Rf o) (H : fReform_mayAsk_89 D cA b E o n sh Rf I L post x1) : Ev (qGG D cA b E) mReform_mayAsk 0 (0, 0) 89 [(0, .ref o), (1, .int x1)] [] (n, sh, Rf, I, L) post := by
  unfold fReform_mayAsk_89 at H
  refine ev_iconst (1) dReform_mayAsk_89 (by decide) ?_
  refine ev_goto 94 dReform_mayAsk_90 (by decide) ?_
  exact ev_zret rfl (by decide) dReform_mayAsk_94 H
def fReform_mayAsk_60 (D : va_G) (cA : FieldType → ClassId) (b : Nat) (E : State → Prop) (o : Nat) (n : Nat) (sh : Nat → qC) (Rf : Nat → Nat → Option Nat) (I : Nat → Nat → Int32) (L : Nat → Nat → Int64) (post : Option Value → qS → Prop) (x1 : Int32) : Prop :=
  ((¬ (I o 8) = 0 → post (some (.int 0)) (n, sh, Rf, I, L)) ∧ ((I o 8) = 0 → post (some (.int 1)) (n, sh, Rf, I, L)))
set_option maxHeartbeats 4000000 in
set_option maxRecDepth 20000 in
theorem sReform_mayAsk_60 {D : va_G} {cA : FieldType → ClassId} {b : Nat} {E : State → Prop} (o : Nat) (n : Nat) (sh : Nat → qC) (Rf : Nat → Nat → Option Nat) (I : Nat → Nat → Int32) (L : Nat → Nat → Int64) (post : Option Value → qS → Prop) (x1 : Int32) (hok : q_ok (qGG D cA b E)) (hw : WfReform (qGG D cA b E) n sh Rf o) (H : fReform_mayAsk_60 D cA b E o n sh Rf I L post x1) : Ev (qGG D cA b E) mReform_mayAsk 0 (0, 0) 60 [(0, .ref o), (1, .int x1)] [] (n, sh, Rf, I, L) post := by
  unfold fReform_mayAsk_60 at H
  refine ev_aload_n dReform_mayAsk_60 rfl ?_
  refine ev_getI hok fk_Reform_37 (woReform hw) (fun _ _ _ => rfl) dReform_mayAsk_61 ?_
  refine ev_if_ne 71 dReform_mayAsk_64 (by decide) (fun c1 => ?_) (fun c1 => ?_)
  · have H := H.1 c1
    refine ev_iconst (0) dReform_mayAsk_71 (by decide) ?_
    exact ev_zret rfl (by decide) dReform_mayAsk_72 H
  · have H := H.2 c1
    refine ev_iconst (1) dReform_mayAsk_67 (by decide) ?_
    refine ev_goto 72 dReform_mayAsk_68 (by decide) ?_
    exact ev_zret rfl (by decide) dReform_mayAsk_72 H
def fReform_mayAsk_0 (D : va_G) (cA : FieldType → ClassId) (b : Nat) (E : State → Prop) (o : Nat) (n : Nat) (sh : Nat → qC) (Rf : Nat → Nat → Option Nat) (I : Nat → Nat → Int32) (L : Nat → Nat → Int64) (post : Option Value → qS → Prop) (x1 : Int32) : Prop :=
  ((x1 = (4 : Int32) → fReform_mayAsk_60 D cA b E o n sh Rf I L post x1) ∧ (¬ x1 = (4 : Int32) → ((x1 = (25 : Int32) → fReform_mayAsk_60 D cA b E o n sh Rf I L post x1) ∧ (¬ x1 = (25 : Int32) → ((x1 = (26 : Int32) → (((I o 8) = 0 → fReform_mayAsk_89 D cA b E o n sh Rf I L post x1) ∧ (¬ (I o 8) = 0 → (((I o 8) < 6 → post (some (.int 0)) (n, sh, Rf, I, L)) ∧ (¬ (I o 8) < 6 → fReform_mayAsk_89 D cA b E o n sh Rf I L post x1))))) ∧ (¬ x1 = (26 : Int32) → ((x1 = (28 : Int32) → fReform_mayAsk_95 D cA b E o n sh Rf I L post x1) ∧ (¬ x1 = (28 : Int32) → ((x1 = (29 : Int32) → fReform_mayAsk_95 D cA b E o n sh Rf I L post x1) ∧ (¬ x1 = (29 : Int32) → ((x1 = (30 : Int32) → fReform_mayAsk_95 D cA b E o n sh Rf I L post x1) ∧ (¬ x1 = (30 : Int32) → post (some (.int 1)) (n, sh, Rf, I, L)))))))))))))
set_option maxHeartbeats 4000000 in
set_option maxRecDepth 20000 in
theorem sReform_mayAsk_0 {D : va_G} {cA : FieldType → ClassId} {b : Nat} {E : State → Prop} (o : Nat) (n : Nat) (sh : Nat → qC) (Rf : Nat → Nat → Option Nat) (I : Nat → Nat → Int32) (L : Nat → Nat → Int64) (post : Option Value → qS → Prop) (x1 : Int32) (hok : q_ok (qGG D cA b E)) (hw : WfReform (qGG D cA b E) n sh Rf o) (H : fReform_mayAsk_0 D cA b E o n sh Rf I L post x1) : Ev (qGG D cA b E) mReform_mayAsk 0 (0, 0) 0 [(0, .ref o), (1, .int x1)] [] (n, sh, Rf, I, L) post := by
  unfold fReform_mayAsk_0 at H
  refine ev_iload_n dReform_mayAsk_0 rfl ?_
  rcases q_em (x1 = (4)) with c0 | c0
  · have H := H.1 c0
    refine ev_lookup 60 dReform_mayAsk_1 (by decide) (off := 59) (by rw [c0]; decide) (by decide) ?_
    exact ev_sub [(0, .ref o), (1, .int x1)] rfl (sReform_mayAsk_60 o n sh Rf I L post x1 hok hw H)
  have H := H.2 c0
  rcases q_em (x1 = (25)) with c1 | c1
  · have H := H.1 c1
    refine ev_lookup 60 dReform_mayAsk_1 (by decide) (off := 59) (by rw [c1]; decide) (by decide) ?_
    exact ev_sub [(0, .ref o), (1, .int x1)] rfl (sReform_mayAsk_60 o n sh Rf I L post x1 hok hw H)
  have H := H.2 c1
  rcases q_em (x1 = (26)) with c2 | c2
  · have H := H.1 c2
    refine ev_lookup 73 dReform_mayAsk_1 (by decide) (off := 72) (by rw [c2]; decide) (by decide) ?_
    refine ev_aload_n dReform_mayAsk_73 rfl ?_
    refine ev_getI hok fk_Reform_37 (woReform hw) (fun _ _ _ => rfl) dReform_mayAsk_74 ?_
    refine ev_if_eq 89 dReform_mayAsk_77 (by decide) (fun c1 => ?_) (fun c1 => ?_)
    · have H := H.1 c1
      exact ev_sub [(0, .ref o), (1, .int x1)] rfl (sReform_mayAsk_89 o n sh Rf I L post x1 hok hw H)
    · have H := H.2 c1
      refine ev_aload_n dReform_mayAsk_80 rfl ?_
      refine ev_getI hok fk_Reform_37 (woReform hw) (fun _ _ _ => rfl) dReform_mayAsk_81 ?_
      refine ev_bipush (6) dReform_mayAsk_84 (by decide) ?_
      refine ev_icmp_lt 93 dReform_mayAsk_86 (by decide) (fun c2 => ?_) (fun c2 => ?_)
      · have H := H.1 c2
        refine ev_iconst (0) dReform_mayAsk_93 (by decide) ?_
        exact ev_zret rfl (by decide) dReform_mayAsk_94 H
      · have H := H.2 c2
        exact ev_sub [(0, .ref o), (1, .int x1)] rfl (sReform_mayAsk_89 o n sh Rf I L post x1 hok hw H)
  have H := H.2 c2
  rcases q_em (x1 = (28)) with c3 | c3
  · have H := H.1 c3
    refine ev_lookup 95 dReform_mayAsk_1 (by decide) (off := 94) (by rw [c3]; decide) (by decide) ?_
    exact ev_sub [(0, .ref o), (1, .int x1)] rfl (sReform_mayAsk_95 o n sh Rf I L post x1 hok hw H)
  have H := H.2 c3
  rcases q_em (x1 = (29)) with c4 | c4
  · have H := H.1 c4
    refine ev_lookup 95 dReform_mayAsk_1 (by decide) (off := 94) (by rw [c4]; decide) (by decide) ?_
    exact ev_sub [(0, .ref o), (1, .int x1)] rfl (sReform_mayAsk_95 o n sh Rf I L post x1 hok hw H)
  have H := H.2 c4
  rcases q_em (x1 = (30)) with c5 | c5
  · have H := H.1 c5
    refine ev_lookup 95 dReform_mayAsk_1 (by decide) (off := 94) (by rw [c5]; decide) (by decide) ?_
    exact ev_sub [(0, .ref o), (1, .int x1)] rfl (sReform_mayAsk_95 o n sh Rf I L post x1 hok hw H)
  have H := H.2 c5
  refine ev_lookup 110 dReform_mayAsk_1 (by decide) (off := 109) (by have e0 : (4 : Int) ≠ (x1 : Int32).toInt := fun h => c0 (Int32.toInt_inj.mp (h.symm.trans (by decide))); have e1 : (25 : Int) ≠ (x1 : Int32).toInt := fun h => c1 (Int32.toInt_inj.mp (h.symm.trans (by decide))); have e2 : (26 : Int) ≠ (x1 : Int32).toInt := fun h => c2 (Int32.toInt_inj.mp (h.symm.trans (by decide))); have e3 : (28 : Int) ≠ (x1 : Int32).toInt := fun h => c3 (Int32.toInt_inj.mp (h.symm.trans (by decide))); have e4 : (29 : Int) ≠ (x1 : Int32).toInt := fun h => c4 (Int32.toInt_inj.mp (h.symm.trans (by decide))); have e5 : (30 : Int) ≠ (x1 : Int32).toInt := fun h => c5 (Int32.toInt_inj.mp (h.symm.trans (by decide))); simp [Op.lookupswitch.offset, *]) (by decide) ?_
  refine ev_iconst (1) dReform_mayAsk_110 (by decide) ?_
  exact ev_zret rfl (by decide) dReform_mayAsk_111 H
def fRun_carryingCost_0 (D : va_G) (cA : FieldType → ClassId) (b : Nat) (E : State → Prop) (o : Nat) (n : Nat) (sh : Nat → qC) (Rf : Nat → Nat → Option Nat) (I : Nat → Nat → Int32) (L : Nat → Nat → Int64) (post : Option Value → qS → Prop) (x1 : Int32) (x2 : Int32) (uo_0 : Nat) (uo_1 : Nat) : Prop :=
  vp_in x1 5 ∧ post (some (.int (((10 * (I (uo_0 + 15) (x1 : Int32).toNatClampNeg)) + (x2 * (I uo_1 2)))))) (n, sh, Rf, I, L)
set_option maxHeartbeats 4000000 in
set_option maxRecDepth 20000 in
theorem sRun_carryingCost_0 {D : va_G} {cA : FieldType → ClassId} {b : Nat} {E : State → Prop} (o : Nat) (n : Nat) (sh : Nat → qC) (Rf : Nat → Nat → Option Nat) (I : Nat → Nat → Int32) (L : Nat → Nat → Int64) (post : Option Value → qS → Prop) (x1 : Int32) (x2 : Int32) (uo_0 : Nat) (uo_1 : Nat) (hok : q_ok (qGG D cA b E)) (hw : WfRun (qGG D cA b E) n sh Rf o) (huo_0 : Rf o 0 = some uo_0) (hwuo_0 : WfLand (qGG D cA b E) n sh Rf uo_0) (huo_1 : Rf o 1 = some uo_1) (hwuo_1 : WfTrade (qGG D cA b E) n sh Rf uo_1) (H : fRun_carryingCost_0 D cA b E o n sh Rf I L post x1 x2 uo_0 uo_1) : Ev (qGG D cA b E) mRun_carryingCost 0 (0, 0) 0 [(0, .ref o), (1, .int x1), (2, .int x2)] [] (n, sh, Rf, I, L) post := by
  unfold fRun_carryingCost_0 at H
  refine ev_bipush (10) dRun_carryingCost_0 (by decide) ?_
  refine ev_aload_n dRun_carryingCost_2 rfl ?_
  refine ev_getR hok fk_Run_12 (woRun hw) (fun _ _ _ => rfl) huo_0 dRun_carryingCost_3 ?_
  refine ev_getR hok fk_Run_397 (woLand hwuo_0) (fun _ _ _ => rfl) (wrLand_19 hwuo_0) dRun_carryingCost_6 ?_
  refine ev_iload_n dRun_carryingCost_9 rfl ?_
  obtain ⟨h1, H⟩ := H
  refine ev_iald hok (waLand_19 hwuo_0) h1 dRun_carryingCost_10 ?_
  refine ev_imul dRun_carryingCost_11 ?_
  refine ev_iload_n dRun_carryingCost_12 rfl ?_
  refine ev_aload_n dRun_carryingCost_13 rfl ?_
  refine ev_getR hok fk_Run_21 (woRun hw) (fun _ _ _ => rfl) huo_1 dRun_carryingCost_14 ?_
  refine ev_getI hok fk_Run_364 (woTrade hwuo_1) (fun _ _ _ => rfl) dRun_carryingCost_17 ?_
  refine ev_imul dRun_carryingCost_20 ?_
  refine ev_iadd dRun_carryingCost_21 ?_
  exact ev_iret rfl dRun_carryingCost_22 H
def fRun_hasFarm_0 (D : va_G) (cA : FieldType → ClassId) (b : Nat) (E : State → Prop) (o : Nat) (n : Nat) (sh : Nat → qC) (Rf : Nat → Nat → Option Nat) (I : Nat → Nat → Int32) (L : Nat → Nat → Int64) (post : Option Value → qS → Prop) (x1 : Int32) (x2 : Int32) : Prop :=
  vp_in ((x1 * 3) + x2) 18 ∧ (((I (o + 62) (((x1 * 3) + x2) : Int32).toNatClampNeg) = (-1) → post (some (.int 0)) (n, sh, Rf, I, L)) ∧ (¬ (I (o + 62) (((x1 * 3) + x2) : Int32).toNatClampNeg) = (-1) → post (some (.int 1)) (n, sh, Rf, I, L)))
set_option maxHeartbeats 4000000 in
set_option maxRecDepth 20000 in
theorem sRun_hasFarm_0 {D : va_G} {cA : FieldType → ClassId} {b : Nat} {E : State → Prop} (o : Nat) (n : Nat) (sh : Nat → qC) (Rf : Nat → Nat → Option Nat) (I : Nat → Nat → Int32) (L : Nat → Nat → Int64) (post : Option Value → qS → Prop) (x1 : Int32) (x2 : Int32) (hok : q_ok (qGG D cA b E)) (hw : WfRun (qGG D cA b E) n sh Rf o) (H : fRun_hasFarm_0 D cA b E o n sh Rf I L post x1 x2) : Ev (qGG D cA b E) mRun_hasFarm 0 (0, 0) 0 [(0, .ref o), (1, .int x1), (2, .int x2)] [] (n, sh, Rf, I, L) post := by
  unfold fRun_hasFarm_0 at H
  refine ev_aload_n dRun_hasFarm_0 rfl ?_
  refine ev_getR hok fk_Run_78 (woRun hw) (fun _ _ _ => rfl) (wrRun_11 hw) dRun_hasFarm_1 ?_
  refine ev_iload_n dRun_hasFarm_4 rfl ?_
  refine ev_iconst (3) dRun_hasFarm_5 (by decide) ?_
  refine ev_imul dRun_hasFarm_6 ?_
  refine ev_iload_n dRun_hasFarm_7 rfl ?_
  refine ev_iadd dRun_hasFarm_8 ?_
  obtain ⟨h1, H⟩ := H
  refine ev_iald hok (waRun_11 hw) h1 dRun_hasFarm_9 ?_
  refine ev_iconst (-1) dRun_hasFarm_10 (by decide) ?_
  refine ev_icmp_eq 18 dRun_hasFarm_11 (by decide) (fun c2 => ?_) (fun c2 => ?_)
  · have H := H.1 c2
    refine ev_iconst (0) dRun_hasFarm_18 (by decide) ?_
    exact ev_zret rfl (by decide) dRun_hasFarm_19 H
  · have H := H.2 c2
    refine ev_iconst (1) dRun_hasFarm_14 (by decide) ?_
    refine ev_goto 19 dRun_hasFarm_15 (by decide) ?_
    exact ev_zret rfl (by decide) dRun_hasFarm_19 H
def fRun_isDead_0 (D : va_G) (cA : FieldType → ClassId) (b : Nat) (E : State → Prop) (o : Nat) (n : Nat) (sh : Nat → qC) (Rf : Nat → Nat → Option Nat) (I : Nat → Nat → Int32) (L : Nat → Nat → Int64) (post : Option Value → qS → Prop) (x1 : Int32) : Prop :=
  vp_in x1 6 ∧ (((I o 17) < (I (o + 63) (x1 : Int32).toNatClampNeg) → post (some (.int 0)) (n, sh, Rf, I, L)) ∧ (¬ (I o 17) < (I (o + 63) (x1 : Int32).toNatClampNeg) → post (some (.int 1)) (n, sh, Rf, I, L)))
set_option maxHeartbeats 4000000 in
set_option maxRecDepth 20000 in
theorem sRun_isDead_0 {D : va_G} {cA : FieldType → ClassId} {b : Nat} {E : State → Prop} (o : Nat) (n : Nat) (sh : Nat → qC) (Rf : Nat → Nat → Option Nat) (I : Nat → Nat → Int32) (L : Nat → Nat → Int64) (post : Option Value → qS → Prop) (x1 : Int32) (hok : q_ok (qGG D cA b E)) (hw : WfRun (qGG D cA b E) n sh Rf o) (H : fRun_isDead_0 D cA b E o n sh Rf I L post x1) : Ev (qGG D cA b E) mRun_isDead 0 (0, 0) 0 [(0, .ref o), (1, .int x1)] [] (n, sh, Rf, I, L) post := by
  unfold fRun_isDead_0 at H
  refine ev_aload_n dRun_isDead_0 rfl ?_
  refine ev_getR hok fk_Run_81 (woRun hw) (fun _ _ _ => rfl) (wrRun_12 hw) dRun_isDead_1 ?_
  refine ev_iload_n dRun_isDead_4 rfl ?_
  obtain ⟨h1, H⟩ := H
  refine ev_iald hok (waRun_12 hw) h1 dRun_isDead_5 ?_
  refine ev_aload_n dRun_isDead_6 rfl ?_
  refine ev_getI hok fk_Run_98 (woRun hw) (fun _ _ _ => rfl) dRun_isDead_7 ?_
  refine ev_icmp_gt 17 dRun_isDead_10 (by decide) (fun c2 => ?_) (fun c2 => ?_)
  · have H := H.1 c2
    refine ev_iconst (0) dRun_isDead_17 (by decide) ?_
    exact ev_zret rfl (by decide) dRun_isDead_18 H
  · have H := H.2 c2
    refine ev_iconst (1) dRun_isDead_13 (by decide) ?_
    refine ev_goto 18 dRun_isDead_14 (by decide) ?_
    exact ev_zret rfl (by decide) dRun_isDead_18 H
def fRun_payTo_0 (D : va_G) (cA : FieldType → ClassId) (b : Nat) (E : State → Prop) (o : Nat) (n : Nat) (sh : Nat → qC) (Rf : Nat → Nat → Option Nat) (I : Nat → Nat → Int32) (L : Nat → Nat → Int64) (post : Option Value → qS → Prop) (x1 : Int32) (x2 : Int64) : Prop :=
  ((¬ x1 = (-1) → vp_in x1 6 ∧ vp_in x1 6 ∧ ∀ L3 : Nat → Nat → Int64, q_u L (o + 61) (x1 : Int32).toNatClampNeg ((L (o + 61) (x1 : Int32).toNatClampNeg) + x2) = L3 → post none (n, sh, Rf, I, L3)) ∧ (x1 = (-1) → ∀ L5 : Nat → Nat → Int64, q_u L (o + 65) 2 ((L (o + 65) 2) + x2) = L5 → post none (n, sh, Rf, I, L5)))
set_option maxHeartbeats 4000000 in
set_option maxRecDepth 20000 in
theorem sRun_payTo_0 {D : va_G} {cA : FieldType → ClassId} {b : Nat} {E : State → Prop} (o : Nat) (n : Nat) (sh : Nat → qC) (Rf : Nat → Nat → Option Nat) (I : Nat → Nat → Int32) (L : Nat → Nat → Int64) (post : Option Value → qS → Prop) (x1 : Int32) (x2 : Int64) (hok : q_ok (qGG D cA b E)) (hw : WfRun (qGG D cA b E) n sh Rf o) (H : fRun_payTo_0 D cA b E o n sh Rf I L post x1 x2) : Ev (qGG D cA b E) mRun_payTo 0 (0, 0) 0 [(0, .ref o), (1, .int x1), (2, .long x2)] [] (n, sh, Rf, I, L) post := by
  unfold fRun_payTo_0 at H
  refine ev_iload_n dRun_payTo_0 rfl ?_
  refine ev_iconst (-1) dRun_payTo_1 (by decide) ?_
  refine ev_icmp_ne 18 dRun_payTo_2 (by decide) (fun c1 => ?_) (fun c1 => ?_)
  · have H := H.1 c1
    refine ev_aload_n dRun_payTo_18 rfl ?_
    refine ev_getR hok fk_Run_74 (woRun hw) (fun _ _ _ => rfl) (wrRun_10 hw) dRun_payTo_19 ?_
    refine ev_iload_n dRun_payTo_22 rfl ?_
    refine ev_dup2_11 dRun_payTo_23 rfl rfl ?_
    obtain ⟨h2, H⟩ := H
    refine ev_lald hok (waRun_10 hw) h2 dRun_payTo_24 ?_
    refine ev_lload_n dRun_payTo_25 rfl ?_
    refine ev_ladd dRun_payTo_26 ?_
    obtain ⟨h4, H⟩ := H
    refine ev_last hok (waRun_10 hw) h4 dRun_payTo_27 ?_
    generalize eL3 : q_u L (o + 61) (x1 : Int32).toNatClampNeg ((L (o + 61) (x1 : Int32).toNatClampNeg) + x2) = L3
    have H := H L3 eL3
    exact ev_vret rfl dRun_payTo_28 H
  · have H := H.2 c1
    refine ev_aload_n dRun_payTo_5 rfl ?_
    refine ev_getR hok fk_Run_87 (woRun hw) (fun _ _ _ => rfl) (wrRun_14 hw) dRun_payTo_6 ?_
    refine ev_iconst (2) dRun_payTo_9 (by decide) ?_
    refine ev_dup2_11 dRun_payTo_10 rfl rfl ?_
    refine ev_lald hok (waRun_14 hw) (by unfold vp_in; decide) dRun_payTo_11 ?_
    rw [show (2 : Int32).toNatClampNeg = 2 from rfl]
    refine ev_lload_n dRun_payTo_12 rfl ?_
    refine ev_ladd dRun_payTo_13 ?_
    refine ev_last hok (waRun_14 hw) (by unfold vp_in; decide) dRun_payTo_14 ?_
    rw [show (2 : Int32).toNatClampNeg = 2 from rfl]
    generalize eL5 : q_u L (o + 65) 2 ((L (o + 65) 2) + x2) = L5
    have H := H L5 eL5
    refine ev_goto 28 dRun_payTo_15 (by decide) ?_
    exact ev_vret rfl dRun_payTo_28 H
def fTape_append_3 (D : va_G) (cA : FieldType → ClassId) (b : Nat) (E : State → Prop) (o : Nat) (n : Nat) (sh : Nat → qC) (Rf : Nat → Nat → Option Nat) (I : Nat → Nat → Int32) (L : Nat → Nat → Int64) (post : Option Value → qS → Prop) (x1 : Int32) (x2 : Int32) : Prop :=
  ((x2 < 0 → post none (n, sh, Rf, I, L)) ∧ (¬ x2 < 0 → ((1600 ≤ (I o 6) → post none (n, sh, Rf, I, L)) ∧ (¬ 1600 ≤ (I o 6) → vp_in (I o 6) 1600 ∧ ∀ I3 : Nat → Nat → Int32, q_u I (o + 1) ((I o 6) : Int32).toNatClampNeg (((x1).toUInt32 >>> ((x2 : Int32).toUInt32 &&& Int32.toUInt32 31)).toInt32 &&& 255) = I3 → ∀ I5 : Nat → Nat → Int32, q_u I3 o 6 ((I3 o 6) + 1) = I5 → Ev (qGG D cA b E) mTape_append 0 (0, 0) 3 [(0, .ref o), (1, .int x1), (2, .int ((x2 + Int32.ofInt (-8))))] [] (n, sh, Rf, I5, L) post))))
set_option maxHeartbeats 4000000 in
set_option maxRecDepth 20000 in
theorem sTape_append_3 {D : va_G} {cA : FieldType → ClassId} {b : Nat} {E : State → Prop} (o : Nat) (n : Nat) (sh : Nat → qC) (Rf : Nat → Nat → Option Nat) (I : Nat → Nat → Int32) (L : Nat → Nat → Int64) (post : Option Value → qS → Prop) (x1 : Int32) (x2 : Int32) (hok : q_ok (qGG D cA b E)) (hw : WfTape (qGG D cA b E) n sh Rf o) (H : fTape_append_3 D cA b E o n sh Rf I L post x1 x2) : Ev (qGG D cA b E) mTape_append 0 (0, 0) 3 [(0, .ref o), (1, .int x1), (2, .int x2)] [] (n, sh, Rf, I, L) post := by
  unfold fTape_append_3 at H
  refine ev_iload_n dTape_append_3 rfl ?_
  refine ev_if_lt 49 dTape_append_4 (by decide) (fun c1 => ?_) (fun c1 => ?_)
  · have H := H.1 c1
    exact ev_vret rfl dTape_append_49 H
  · have H := H.2 c1
    refine ev_aload_n dTape_append_7 rfl ?_
    refine ev_getI hok fk_Tape_31 (woTape hw) (fun _ _ _ => rfl) dTape_append_8 ?_
    refine ev_sipush (1600) dTape_append_11 (by decide) ?_
    refine ev_icmp_ge 49 dTape_append_14 (by decide) (fun c2 => ?_) (fun c2 => ?_)
    · have H := H.1 c2
      exact ev_vret rfl dTape_append_49 H
    · have H := H.2 c2
      refine ev_aload_n dTape_append_17 rfl ?_
      refine ev_getR hok fk_Tape_9 (woTape hw) (fun _ _ _ => rfl) (wrTape_0 hw) dTape_append_18 ?_
      refine ev_aload_n dTape_append_21 rfl ?_
      refine ev_getI hok fk_Tape_31 (woTape hw) (fun _ _ _ => rfl) dTape_append_22 ?_
      refine ev_iload_n dTape_append_25 rfl ?_
      refine ev_iload_n dTape_append_26 rfl ?_
      refine ev_iushr dTape_append_27 ?_
      refine ev_sipush (255) dTape_append_28 (by decide) ?_
      refine ev_iand dTape_append_31 ?_
      obtain ⟨h4, H⟩ := H
      refine ev_iast hok (waTape_0 hw) h4 dTape_append_32 ?_
      generalize eI3 : q_u I (o + 1) ((I o 6) : Int32).toNatClampNeg (((x1).toUInt32 >>> ((x2 : Int32).toUInt32 &&& Int32.toUInt32 31)).toInt32 &&& 255) = I3
      have H := H I3 eI3
      refine ev_aload_n dTape_append_33 rfl ?_
      refine ev_dup dTape_append_34 rfl ?_
      refine ev_getI hok fk_Tape_31 (woTape hw) (fun _ _ _ => rfl) dTape_append_35 ?_
      refine ev_iconst (1) dTape_append_38 (by decide) ?_
      refine ev_iadd dTape_append_39 ?_
      refine ev_putI hok fk_Tape_31 (woTape hw) (fun _ _ _ => rfl) rfl rfl dTape_append_40 ?_
      generalize eI5 : q_u I3 o 6 ((I3 o 6) + 1) = I5
      have H := H I5 eI5
      refine ev_iinc dTape_append_43 rfl (by decide) ?_
      refine ev_goto 3 dTape_append_46 (by decide) ?_
      exact ev_sub [(0, .ref o), (1, .int x1), (2, .int ((x2 + Int32.ofInt (-8))))] rfl H
def fTape_append_0 (D : va_G) (cA : FieldType → ClassId) (b : Nat) (E : State → Prop) (o : Nat) (n : Nat) (sh : Nat → qC) (Rf : Nat → Nat → Option Nat) (I : Nat → Nat → Int32) (L : Nat → Nat → Int64) (post : Option Value → qS → Prop) (x1 : Int32) : Prop :=
  Ev (qGG D cA b E) mTape_append 0 (0, 0) 3 [(0, .ref o), (1, .int x1), (2, .int 24)] [] (n, sh, Rf, I, L) post
set_option maxHeartbeats 4000000 in
set_option maxRecDepth 20000 in
theorem sTape_append_0 {D : va_G} {cA : FieldType → ClassId} {b : Nat} {E : State → Prop} (o : Nat) (n : Nat) (sh : Nat → qC) (Rf : Nat → Nat → Option Nat) (I : Nat → Nat → Int32) (L : Nat → Nat → Int64) (post : Option Value → qS → Prop) (x1 : Int32) (hok : q_ok (qGG D cA b E)) (hw : WfTape (qGG D cA b E) n sh Rf o) (H : fTape_append_0 D cA b E o n sh Rf I L post x1) : Ev (qGG D cA b E) mTape_append 0 (0, 0) 0 [(0, .ref o), (1, .int x1)] [] (n, sh, Rf, I, L) post := by
  unfold fTape_append_0 at H
  refine ev_bipush (24) dTape_append_0 (by decide) ?_
  refine ev_istore_n dTape_append_2 (by decide) ?_
  exact ev_sub [(0, .ref o), (1, .int x1), (2, .int 24)] rfl H
def fTape_atEnd_0 (D : va_G) (cA : FieldType → ClassId) (b : Nat) (E : State → Prop) (o : Nat) (n : Nat) (sh : Nat → qC) (Rf : Nat → Nat → Option Nat) (I : Nat → Nat → Int32) (L : Nat → Nat → Int64) (post : Option Value → qS → Prop)  : Prop :=
  vp_in (I o 10) 1601 ∧ ((¬ (I (o + 3) ((I o 10) : Int32).toNatClampNeg) = 0 → post (some (.int 0)) (n, sh, Rf, I, L)) ∧ ((I (o + 3) ((I o 10) : Int32).toNatClampNeg) = 0 → post (some (.int 1)) (n, sh, Rf, I, L)))
set_option maxHeartbeats 4000000 in
set_option maxRecDepth 20000 in
theorem sTape_atEnd_0 {D : va_G} {cA : FieldType → ClassId} {b : Nat} {E : State → Prop} (o : Nat) (n : Nat) (sh : Nat → qC) (Rf : Nat → Nat → Option Nat) (I : Nat → Nat → Int32) (L : Nat → Nat → Int64) (post : Option Value → qS → Prop)  (hok : q_ok (qGG D cA b E)) (hw : WfTape (qGG D cA b E) n sh Rf o) (H : fTape_atEnd_0 D cA b E o n sh Rf I L post ) : Ev (qGG D cA b E) mTape_atEnd 0 (0, 0) 0 [(0, .ref o)] [] (n, sh, Rf, I, L) post := by
  unfold fTape_atEnd_0 at H
  refine ev_aload_n dTape_atEnd_0 rfl ?_
  refine ev_getR hok fk_Tape_19 (woTape hw) (fun _ _ _ => rfl) (wrTape_2 hw) dTape_atEnd_1 ?_
  refine ev_aload_n dTape_atEnd_4 rfl ?_
  refine ev_getI hok fk_Tape_45 (woTape hw) (fun _ _ _ => rfl) dTape_atEnd_5 ?_
  obtain ⟨h1, H⟩ := H
  refine ev_iald hok (waTape_2 hw) h1 dTape_atEnd_8 ?_
  refine ev_if_ne 16 dTape_atEnd_9 (by decide) (fun c2 => ?_) (fun c2 => ?_)
  · have H := H.1 c2
    refine ev_iconst (0) dTape_atEnd_16 (by decide) ?_
    exact ev_zret rfl (by decide) dTape_atEnd_17 H
  · have H := H.2 c2
    refine ev_iconst (1) dTape_atEnd_12 (by decide) ?_
    refine ev_goto 17 dTape_atEnd_13 (by decide) ?_
    exact ev_zret rfl (by decide) dTape_atEnd_17 H
def fTape_byteAt_19 (D : va_G) (cA : FieldType → ClassId) (b : Nat) (E : State → Prop) (o : Nat) (n : Nat) (sh : Nat → qC) (Rf : Nat → Nat → Option Nat) (I : Nat → Nat → Int32) (L : Nat → Nat → Int64) (post : Option Value → qS → Prop) (x1 : Int32) : Prop :=
  post (some (.int 0)) (n, sh, Rf, I, L)
set_option maxHeartbeats 4000000 in
set_option maxRecDepth 20000 in
theorem sTape_byteAt_19 {D : va_G} {cA : FieldType → ClassId} {b : Nat} {E : State → Prop} (o : Nat) (n : Nat) (sh : Nat → qC) (Rf : Nat → Nat → Option Nat) (I : Nat → Nat → Int32) (L : Nat → Nat → Int64) (post : Option Value → qS → Prop) (x1 : Int32) (hok : q_ok (qGG D cA b E)) (hw : WfTape (qGG D cA b E) n sh Rf o) (H : fTape_byteAt_19 D cA b E o n sh Rf I L post x1) : Ev (qGG D cA b E) mTape_byteAt 0 (0, 0) 19 [(0, .ref o), (1, .int x1)] [] (n, sh, Rf, I, L) post := by
  unfold fTape_byteAt_19 at H
  refine ev_iconst (0) dTape_byteAt_19 (by decide) ?_
  refine ev_goto 29 dTape_byteAt_20 (by decide) ?_
  exact ev_iret rfl dTape_byteAt_29 H
def fTape_byteAt_0 (D : va_G) (cA : FieldType → ClassId) (b : Nat) (E : State → Prop) (o : Nat) (n : Nat) (sh : Nat → qC) (Rf : Nat → Nat → Option Nat) (I : Nat → Nat → Int32) (L : Nat → Nat → Int64) (post : Option Value → qS → Prop) (x1 : Int32) : Prop :=
  ((x1 < 0 → fTape_byteAt_19 D cA b E o n sh Rf I L post x1) ∧ (¬ x1 < 0 → (((I o 6) ≤ x1 → fTape_byteAt_19 D cA b E o n sh Rf I L post x1) ∧ (¬ (I o 6) ≤ x1 → ((x1 < 1600 → vp_in x1 1600 ∧ post (some (.int ((I (o + 1) (x1 : Int32).toNatClampNeg)))) (n, sh, Rf, I, L)) ∧ (¬ x1 < 1600 → fTape_byteAt_19 D cA b E o n sh Rf I L post x1))))))
set_option maxHeartbeats 4000000 in
set_option maxRecDepth 20000 in
theorem sTape_byteAt_0 {D : va_G} {cA : FieldType → ClassId} {b : Nat} {E : State → Prop} (o : Nat) (n : Nat) (sh : Nat → qC) (Rf : Nat → Nat → Option Nat) (I : Nat → Nat → Int32) (L : Nat → Nat → Int64) (post : Option Value → qS → Prop) (x1 : Int32) (hok : q_ok (qGG D cA b E)) (hw : WfTape (qGG D cA b E) n sh Rf o) (H : fTape_byteAt_0 D cA b E o n sh Rf I L post x1) : Ev (qGG D cA b E) mTape_byteAt 0 (0, 0) 0 [(0, .ref o), (1, .int x1)] [] (n, sh, Rf, I, L) post := by
  unfold fTape_byteAt_0 at H
  refine ev_iload_n dTape_byteAt_0 rfl ?_
  refine ev_if_lt 19 dTape_byteAt_1 (by decide) (fun c1 => ?_) (fun c1 => ?_)
  · have H := H.1 c1
    exact ev_sub [(0, .ref o), (1, .int x1)] rfl (sTape_byteAt_19 o n sh Rf I L post x1 hok hw H)
  · have H := H.2 c1
    refine ev_iload_n dTape_byteAt_4 rfl ?_
    refine ev_aload_n dTape_byteAt_5 rfl ?_
    refine ev_getI hok fk_Tape_31 (woTape hw) (fun _ _ _ => rfl) dTape_byteAt_6 ?_
    refine ev_icmp_ge 19 dTape_byteAt_9 (by decide) (fun c2 => ?_) (fun c2 => ?_)
    · have H := H.1 c2
      exact ev_sub [(0, .ref o), (1, .int x1)] rfl (sTape_byteAt_19 o n sh Rf I L post x1 hok hw H)
    · have H := H.2 c2
      refine ev_iload_n dTape_byteAt_12 rfl ?_
      refine ev_sipush (1600) dTape_byteAt_13 (by decide) ?_
      refine ev_icmp_lt 23 dTape_byteAt_16 (by decide) (fun c3 => ?_) (fun c3 => ?_)
      · have H := H.1 c3
        refine ev_aload_n dTape_byteAt_23 rfl ?_
        refine ev_getR hok fk_Tape_9 (woTape hw) (fun _ _ _ => rfl) (wrTape_0 hw) dTape_byteAt_24 ?_
        refine ev_iload_n dTape_byteAt_27 rfl ?_
        obtain ⟨h4, H⟩ := H
        refine ev_iald hok (waTape_0 hw) h4 dTape_byteAt_28 ?_
        exact ev_iret rfl dTape_byteAt_29 H
      · have H := H.2 c3
        exact ev_sub [(0, .ref o), (1, .int x1)] rfl (sTape_byteAt_19 o n sh Rf I L post x1 hok hw H)
def fTape_isDigit_0 (D : va_G) (cA : FieldType → ClassId) (b : Nat) (E : State → Prop) (n : Nat) (sh : Nat → qC) (Rf : Nat → Nat → Option Nat) (I : Nat → Nat → Int32) (L : Nat → Nat → Int64) (post : Option Value → qS → Prop) (x0 : Int32) : Prop :=
  ((x0 < 48 → post (some (.int 0)) (n, sh, Rf, I, L)) ∧ (¬ x0 < 48 → ((57 < x0 → post (some (.int 0)) (n, sh, Rf, I, L)) ∧ (¬ 57 < x0 → post (some (.int 1)) (n, sh, Rf, I, L)))))
set_option maxHeartbeats 4000000 in
set_option maxRecDepth 20000 in
theorem sTape_isDigit_0 {D : va_G} {cA : FieldType → ClassId} {b : Nat} {E : State → Prop} (n : Nat) (sh : Nat → qC) (Rf : Nat → Nat → Option Nat) (I : Nat → Nat → Int32) (L : Nat → Nat → Int64) (post : Option Value → qS → Prop) (x0 : Int32) (hok : q_ok (qGG D cA b E)) (H : fTape_isDigit_0 D cA b E n sh Rf I L post x0) : Ev (qGG D cA b E) mTape_isDigit 0 (0, 0) 0 [(0, .int x0)] [] (n, sh, Rf, I, L) post := by
  unfold fTape_isDigit_0 at H
  refine ev_iload_n dTape_isDigit_0 rfl ?_
  refine ev_bipush (48) dTape_isDigit_1 (by decide) ?_
  refine ev_icmp_lt 16 dTape_isDigit_3 (by decide) (fun c1 => ?_) (fun c1 => ?_)
  · have H := H.1 c1
    refine ev_iconst (0) dTape_isDigit_16 (by decide) ?_
    exact ev_zret rfl (by decide) dTape_isDigit_17 H
  · have H := H.2 c1
    refine ev_iload_n dTape_isDigit_6 rfl ?_
    refine ev_bipush (57) dTape_isDigit_7 (by decide) ?_
    refine ev_icmp_gt 16 dTape_isDigit_9 (by decide) (fun c2 => ?_) (fun c2 => ?_)
    · have H := H.1 c2
      refine ev_iconst (0) dTape_isDigit_16 (by decide) ?_
      exact ev_zret rfl (by decide) dTape_isDigit_17 H
    · have H := H.2 c2
      refine ev_iconst (1) dTape_isDigit_12 (by decide) ?_
      refine ev_goto 17 dTape_isDigit_13 (by decide) ?_
      exact ev_zret rfl (by decide) dTape_isDigit_17 H
def fTape_isLetter_0 (D : va_G) (cA : FieldType → ClassId) (b : Nat) (E : State → Prop) (n : Nat) (sh : Nat → qC) (Rf : Nat → Nat → Option Nat) (I : Nat → Nat → Int32) (L : Nat → Nat → Int64) (post : Option Value → qS → Prop) (x0 : Int32) : Prop :=
  ((x0 < 97 → post (some (.int 0)) (n, sh, Rf, I, L)) ∧ (¬ x0 < 97 → ((122 < x0 → post (some (.int 0)) (n, sh, Rf, I, L)) ∧ (¬ 122 < x0 → post (some (.int 1)) (n, sh, Rf, I, L)))))
set_option maxHeartbeats 4000000 in
set_option maxRecDepth 20000 in
theorem sTape_isLetter_0 {D : va_G} {cA : FieldType → ClassId} {b : Nat} {E : State → Prop} (n : Nat) (sh : Nat → qC) (Rf : Nat → Nat → Option Nat) (I : Nat → Nat → Int32) (L : Nat → Nat → Int64) (post : Option Value → qS → Prop) (x0 : Int32) (hok : q_ok (qGG D cA b E)) (H : fTape_isLetter_0 D cA b E n sh Rf I L post x0) : Ev (qGG D cA b E) mTape_isLetter 0 (0, 0) 0 [(0, .int x0)] [] (n, sh, Rf, I, L) post := by
  unfold fTape_isLetter_0 at H
  refine ev_iload_n dTape_isLetter_0 rfl ?_
  refine ev_bipush (97) dTape_isLetter_1 (by decide) ?_
  refine ev_icmp_lt 16 dTape_isLetter_3 (by decide) (fun c1 => ?_) (fun c1 => ?_)
  · have H := H.1 c1
    refine ev_iconst (0) dTape_isLetter_16 (by decide) ?_
    exact ev_zret rfl (by decide) dTape_isLetter_17 H
  · have H := H.2 c1
    refine ev_iload_n dTape_isLetter_6 rfl ?_
    refine ev_bipush (122) dTape_isLetter_7 (by decide) ?_
    refine ev_icmp_gt 16 dTape_isLetter_9 (by decide) (fun c2 => ?_) (fun c2 => ?_)
    · have H := H.1 c2
      refine ev_iconst (0) dTape_isLetter_16 (by decide) ?_
      exact ev_zret rfl (by decide) dTape_isLetter_17 H
    · have H := H.2 c2
      refine ev_iconst (1) dTape_isLetter_12 (by decide) ?_
      refine ev_goto 17 dTape_isLetter_13 (by decide) ?_
      exact ev_zret rfl (by decide) dTape_isLetter_17 H
def fTape_isNumber_0 (D : va_G) (cA : FieldType → ClassId) (b : Nat) (E : State → Prop) (o : Nat) (n : Nat) (sh : Nat → qC) (Rf : Nat → Nat → Option Nat) (I : Nat → Nat → Int32) (L : Nat → Nat → Int64) (post : Option Value → qS → Prop)  : Prop :=
  ((¬ (I o 7) = 0 → post (some (.int 0)) (n, sh, Rf, I, L)) ∧ ((I o 7) = 0 → vp_in (I o 10) 1601 ∧ ((¬ (I (o + 3) ((I o 10) : Int32).toNatClampNeg) = 2 → post (some (.int 0)) (n, sh, Rf, I, L)) ∧ ((I (o + 3) ((I o 10) : Int32).toNatClampNeg) = 2 → post (some (.int 1)) (n, sh, Rf, I, L)))))
set_option maxHeartbeats 4000000 in
set_option maxRecDepth 20000 in
theorem sTape_isNumber_0 {D : va_G} {cA : FieldType → ClassId} {b : Nat} {E : State → Prop} (o : Nat) (n : Nat) (sh : Nat → qC) (Rf : Nat → Nat → Option Nat) (I : Nat → Nat → Int32) (L : Nat → Nat → Int64) (post : Option Value → qS → Prop)  (hok : q_ok (qGG D cA b E)) (hw : WfTape (qGG D cA b E) n sh Rf o) (H : fTape_isNumber_0 D cA b E o n sh Rf I L post ) : Ev (qGG D cA b E) mTape_isNumber 0 (0, 0) 0 [(0, .ref o)] [] (n, sh, Rf, I, L) post := by
  unfold fTape_isNumber_0 at H
  refine ev_aload_n dTape_isNumber_0 rfl ?_
  refine ev_getI hok fk_Tape_35 (woTape hw) (fun _ _ _ => rfl) dTape_isNumber_1 ?_
  refine ev_if_ne 24 dTape_isNumber_4 (by decide) (fun c1 => ?_) (fun c1 => ?_)
  · have H := H.1 c1
    refine ev_iconst (0) dTape_isNumber_24 (by decide) ?_
    exact ev_zret rfl (by decide) dTape_isNumber_25 H
  · have H := H.2 c1
    refine ev_aload_n dTape_isNumber_7 rfl ?_
    refine ev_getR hok fk_Tape_19 (woTape hw) (fun _ _ _ => rfl) (wrTape_2 hw) dTape_isNumber_8 ?_
    refine ev_aload_n dTape_isNumber_11 rfl ?_
    refine ev_getI hok fk_Tape_45 (woTape hw) (fun _ _ _ => rfl) dTape_isNumber_12 ?_
    obtain ⟨h2, H⟩ := H
    refine ev_iald hok (waTape_2 hw) h2 dTape_isNumber_15 ?_
    refine ev_iconst (2) dTape_isNumber_16 (by decide) ?_
    refine ev_icmp_ne 24 dTape_isNumber_17 (by decide) (fun c3 => ?_) (fun c3 => ?_)
    · have H := H.1 c3
      refine ev_iconst (0) dTape_isNumber_24 (by decide) ?_
      exact ev_zret rfl (by decide) dTape_isNumber_25 H
    · have H := H.2 c3
      refine ev_iconst (1) dTape_isNumber_20 (by decide) ?_
      refine ev_goto 25 dTape_isNumber_21 (by decide) ?_
      exact ev_zret rfl (by decide) dTape_isNumber_25 H
def fTape_isSign_0 (D : va_G) (cA : FieldType → ClassId) (b : Nat) (E : State → Prop) (o : Nat) (n : Nat) (sh : Nat → qC) (Rf : Nat → Nat → Option Nat) (I : Nat → Nat → Int32) (L : Nat → Nat → Int64) (post : Option Value → qS → Prop) (x1 : Int32) : Prop :=
  ((¬ (I o 7) = 0 → post (some (.int 0)) (n, sh, Rf, I, L)) ∧ ((I o 7) = 0 → vp_in (I o 10) 1601 ∧ ((¬ (I (o + 3) ((I o 10) : Int32).toNatClampNeg) = 4 → post (some (.int 0)) (n, sh, Rf, I, L)) ∧ ((I (o + 3) ((I o 10) : Int32).toNatClampNeg) = 4 → vp_in (I o 10) 1601 ∧ ((¬ (I (o + 5) ((I o 10) : Int32).toNatClampNeg) = x1 → post (some (.int 0)) (n, sh, Rf, I, L)) ∧ ((I (o + 5) ((I o 10) : Int32).toNatClampNeg) = x1 → post (some (.int 1)) (n, sh, Rf, I, L)))))))
set_option maxHeartbeats 4000000 in
set_option maxRecDepth 20000 in
theorem sTape_isSign_0 {D : va_G} {cA : FieldType → ClassId} {b : Nat} {E : State → Prop} (o : Nat) (n : Nat) (sh : Nat → qC) (Rf : Nat → Nat → Option Nat) (I : Nat → Nat → Int32) (L : Nat → Nat → Int64) (post : Option Value → qS → Prop) (x1 : Int32) (hok : q_ok (qGG D cA b E)) (hw : WfTape (qGG D cA b E) n sh Rf o) (H : fTape_isSign_0 D cA b E o n sh Rf I L post x1) : Ev (qGG D cA b E) mTape_isSign 0 (0, 0) 0 [(0, .ref o), (1, .int x1)] [] (n, sh, Rf, I, L) post := by
  unfold fTape_isSign_0 at H
  refine ev_aload_n dTape_isSign_0 rfl ?_
  refine ev_getI hok fk_Tape_35 (woTape hw) (fun _ _ _ => rfl) dTape_isSign_1 ?_
  refine ev_if_ne 37 dTape_isSign_4 (by decide) (fun c1 => ?_) (fun c1 => ?_)
  · have H := H.1 c1
    refine ev_iconst (0) dTape_isSign_37 (by decide) ?_
    exact ev_zret rfl (by decide) dTape_isSign_38 H
  · have H := H.2 c1
    refine ev_aload_n dTape_isSign_7 rfl ?_
    refine ev_getR hok fk_Tape_19 (woTape hw) (fun _ _ _ => rfl) (wrTape_2 hw) dTape_isSign_8 ?_
    refine ev_aload_n dTape_isSign_11 rfl ?_
    refine ev_getI hok fk_Tape_45 (woTape hw) (fun _ _ _ => rfl) dTape_isSign_12 ?_
    obtain ⟨h2, H⟩ := H
    refine ev_iald hok (waTape_2 hw) h2 dTape_isSign_15 ?_
    refine ev_iconst (4) dTape_isSign_16 (by decide) ?_
    refine ev_icmp_ne 37 dTape_isSign_17 (by decide) (fun c3 => ?_) (fun c3 => ?_)
    · have H := H.1 c3
      refine ev_iconst (0) dTape_isSign_37 (by decide) ?_
      exact ev_zret rfl (by decide) dTape_isSign_38 H
    · have H := H.2 c3
      refine ev_aload_n dTape_isSign_20 rfl ?_
      refine ev_getR hok fk_Tape_25 (woTape hw) (fun _ _ _ => rfl) (wrTape_4 hw) dTape_isSign_21 ?_
      refine ev_aload_n dTape_isSign_24 rfl ?_
      refine ev_getI hok fk_Tape_45 (woTape hw) (fun _ _ _ => rfl) dTape_isSign_25 ?_
      obtain ⟨h4, H⟩ := H
      refine ev_iald hok (waTape_4 hw) h4 dTape_isSign_28 ?_
      refine ev_iload_n dTape_isSign_29 rfl ?_
      refine ev_icmp_ne 37 dTape_isSign_30 (by decide) (fun c5 => ?_) (fun c5 => ?_)
      · have H := H.1 c5
        refine ev_iconst (0) dTape_isSign_37 (by decide) ?_
        exact ev_zret rfl (by decide) dTape_isSign_38 H
      · have H := H.2 c5
        refine ev_iconst (1) dTape_isSign_33 (by decide) ?_
        refine ev_goto 38 dTape_isSign_34 (by decide) ?_
        exact ev_zret rfl (by decide) dTape_isSign_38 H
