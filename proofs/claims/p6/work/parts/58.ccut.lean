/-! Tape.cutToken up to its string (pc 128): by program (walk.py, stops). -/
def fTape_cutToken_36 (D : va_G) (cA : FieldType → ClassId) (b : Nat) (E : State → Prop) (o : Nat) (n : Nat) (sh : Nat → qC) (Rf : Nat → Nat → Option Nat) (I : Nat → Nat → Int32) (L : Nat → Nat → Int64) (post : Option Value → qS → Prop) (x1 : Int32) (x2 : Int32) (x3 : Int32) : Prop :=
  vp_in x1 1601 ∧ ∀ I1 : Nat → Nat → Int32, q_u I (o + 4) (x1 : Int32).toNatClampNeg x3 = I1 → vp_in x1 1601 ∧ ∀ I3 : Nat → Nat → Int32, q_u I1 (o + 5) (x1 : Int32).toNatClampNeg (-1) = I3 → ((x3 < (I3 o 6) → Ev (qGG D cA b E) mTape_byteAt 0 (0, 0) 0 (lv_args 0 [.ref o, .int x3]) [] (n, sh, Rf, I3, L) (fun v τ => ∃ (r7 : Int32) (I8 : Nat → Nat → Int32) (L9 : Nat → Nat → Int64), v = some (.int r7) ∧ τ = (n, sh, Rf, I8, L9) ∧ Ev (qGG D cA b E) mTape_isLetter 0 (0, 0) 0 (lv_args 0 [.int r7]) [] (n, sh, Rf, I8, L9) (fun v τ => ∃ (r11 : Int32) (I12 : Nat → Nat → Int32) (L13 : Nat → Nat → Int64), v = some (.int r11) ∧ τ = (n, sh, Rf, I12, L13) ∧ ((r11 = 0 → Ev (qGG D cA b E) mTape_byteAt 0 (0, 0) 0 (lv_args 0 [.ref o, .int x3]) [] (n, sh, Rf, I12, L13) (fun v τ => ∃ (r16 : Int32) (I17 : Nat → Nat → Int32) (L18 : Nat → Nat → Int64), v = some (.int r16) ∧ τ = (n, sh, Rf, I17, L18) ∧ Ev (qGG D cA b E) mTape_isDigit 0 (0, 0) 0 (lv_args 0 [.int r16]) [] (n, sh, Rf, I17, L18) (fun v τ => ∃ (r20 : Int32) (I21 : Nat → Nat → Int32) (L22 : Nat → Nat → Int64), v = some (.int r20) ∧ τ = (n, sh, Rf, I21, L22) ∧ ((r20 = 0 → Ev (qGG D cA b E) mTape_cutToken 8 (0, 0) 128 [(0, .ref o), (1, .int x1), (2, .int x2), (3, .int x3)] [] (n, sh, Rf, I21, L22) post) ∧ (¬ r20 = 0 → Ev (qGG D cA b E) mTape_cutNumber 1 (0, 0) 0 (lv_args 0 [.ref o, .int x1, .int x3]) [] (n, sh, Rf, I21, L22) (fun v τ => ∃ (r25 : Int32) (I26 : Nat → Nat → Int32) (L27 : Nat → Nat → Int64), v = some (.int r25) ∧ τ = (n, sh, Rf, I26, L27) ∧ post (some (.int r25)) (n, sh, Rf, I26, L27))))))) ∧ (¬ r11 = 0 → (((I12 o 9) = 0 → Ev (qGG D cA b E) mTape_cutWord 1 (0, 0) 0 (lv_args 0 [.ref o, .int x1, .int x3]) [] (n, sh, Rf, I12, L13) (fun v τ => ∃ (r30 : Int32) (I31 : Nat → Nat → Int32) (L32 : Nat → Nat → Int64), v = some (.int r30) ∧ τ = (n, sh, Rf, I31, L32) ∧ post (some (.int r30)) (n, sh, Rf, I31, L32))) ∧ (¬ (I12 o 9) = 0 → Ev (qGG D cA b E) mTape_placeAt 1 (0, 0) 0 (lv_args 0 [.ref o, .int x3]) [] (n, sh, Rf, I12, L13) (fun v τ => ∃ (r34 : Int32) (I35 : Nat → Nat → Int32) (L36 : Nat → Nat → Int64), v = some (.int r34) ∧ τ = (n, sh, Rf, I35, L36) ∧ ((r34 = (-1) → Ev (qGG D cA b E) mTape_cutWord 1 (0, 0) 0 (lv_args 0 [.ref o, .int x1, .int x3]) [] (n, sh, Rf, I35, L36) (fun v τ => ∃ (r39 : Int32) (I40 : Nat → Nat → Int32) (L41 : Nat → Nat → Int64), v = some (.int r39) ∧ τ = (n, sh, Rf, I40, L41) ∧ post (some (.int r39)) (n, sh, Rf, I40, L41))) ∧ (¬ r34 = (-1) → Ev (qGG D cA b E) mTape_cutPlace 2 (0, 0) 0 (lv_args 0 [.ref o, .int x1, .int x3]) [] (n, sh, Rf, I35, L36) (fun v τ => ∃ (r43 : Int32) (I44 : Nat → Nat → Int32) (L45 : Nat → Nat → Int64), v = some (.int r43) ∧ τ = (n, sh, Rf, I44, L45) ∧ post (some (.int r43)) (n, sh, Rf, I44, L45)))))))))))) ∧ (¬ x3 < (I3 o 6) → vp_in x1 1601 ∧ ∀ I46 : Nat → Nat → Int32, q_u I3 (o + 3) (x1 : Int32).toNatClampNeg 0 = I46 → post (some (.int x3)) (n, sh, Rf, I46, L)))
set_option maxHeartbeats 4000000 in
set_option maxRecDepth 20000 in
theorem sTape_cutToken_36 {D : va_G} {cA : FieldType → ClassId} {b : Nat} {E : State → Prop} (o : Nat) (n : Nat) (sh : Nat → qC) (Rf : Nat → Nat → Option Nat) (I : Nat → Nat → Int32) (L : Nat → Nat → Int64) (post : Option Value → qS → Prop) (x1 : Int32) (x2 : Int32) (x3 : Int32) (hok : q_ok (qGG D cA b E)) (hw : WfTape (qGG D cA b E) n sh Rf o) (H : fTape_cutToken_36 D cA b E o n sh Rf I L post x1 x2 x3) : Ev (qGG D cA b E) mTape_cutToken 8 (0, 0) 36 [(0, .ref o), (1, .int x1), (2, .int x2), (3, .int x3)] [] (n, sh, Rf, I, L) post := by
  unfold fTape_cutToken_36 at H
  refine ev_aload_n dTape_cutToken_36 rfl ?_
  refine ev_getR hok fk_Tape_22 (woTape hw) (fun _ _ _ => rfl) (wrTape_3 hw) dTape_cutToken_37 ?_
  refine ev_iload_n dTape_cutToken_40 rfl ?_
  refine ev_iload_n dTape_cutToken_41 rfl ?_
  obtain ⟨h2, H⟩ := H
  refine ev_iast hok (waTape_3 hw) h2 dTape_cutToken_42 ?_
  generalize eI1 : q_u I (o + 4) (x1 : Int32).toNatClampNeg x3 = I1
  have H := H I1 eI1
  refine ev_aload_n dTape_cutToken_43 rfl ?_
  refine ev_getR hok fk_Tape_25 (woTape hw) (fun _ _ _ => rfl) (wrTape_4 hw) dTape_cutToken_44 ?_
  refine ev_iload_n dTape_cutToken_47 rfl ?_
  refine ev_iconst (-1) dTape_cutToken_48 (by decide) ?_
  obtain ⟨h4, H⟩ := H
  refine ev_iast hok (waTape_4 hw) h4 dTape_cutToken_49 ?_
  generalize eI3 : q_u I1 (o + 5) (x1 : Int32).toNatClampNeg (-1) = I3
  have H := H I3 eI3
  refine ev_iload_n dTape_cutToken_50 rfl ?_
  refine ev_aload_n dTape_cutToken_51 rfl ?_
  refine ev_getI hok fk_Tape_31 (woTape hw) (fun _ _ _ => rfl) dTape_cutToken_52 ?_
  refine ev_icmp_lt 67 dTape_cutToken_55 (by decide) (fun c5 => ?_) (fun c5 => ?_)
  · have H := H.1 c5
    refine ev_aload_n dTape_cutToken_67 rfl ?_
    refine ev_iload_n dTape_cutToken_68 rfl ?_
    refine ev_callV [.int x3] [] (B' := (0, 0)) (B'' := (0, 0)) hok mmTape_byteAt mk_Tape_71 (ci := 8) rfl rfl (woTape hw) rfl (Nat.le_of_ble_eq_true rfl) rfl (Nat.le_of_ble_eq_true rfl) dTape_cutToken_69 rfl (by decide) H (fun v τ p6 => ?_)
    obtain ⟨r7, I8, L9, rfl, rfl, H⟩ := p6
    refine ev_callS [.int r7] [] (B' := (0, 0)) (B'' := (0, 0)) hok mmTape_isLetter mk_Tape_59 rfl (Nat.le_of_ble_eq_true rfl) rfl (Nat.le_of_ble_eq_true rfl) dTape_cutToken_72 rfl (by decide) H (fun v τ p10 => ?_)
    obtain ⟨r11, I12, L13, rfl, rfl, H⟩ := p10
    refine ev_if_eq 110 dTape_cutToken_75 (by decide) (fun c14 => ?_) (fun c14 => ?_)
    · have H := H.1 c14
      refine ev_aload_n dTape_cutToken_110 rfl ?_
      refine ev_iload_n dTape_cutToken_111 rfl ?_
      refine ev_callV [.int x3] [] (B' := (0, 0)) (B'' := (0, 0)) hok mmTape_byteAt mk_Tape_71 (ci := 8) rfl rfl (woTape hw) rfl (Nat.le_of_ble_eq_true rfl) rfl (Nat.le_of_ble_eq_true rfl) dTape_cutToken_112 rfl (by decide) H (fun v τ p15 => ?_)
      obtain ⟨r16, I17, L18, rfl, rfl, H⟩ := p15
      refine ev_callS [.int r16] [] (B' := (0, 0)) (B'' := (0, 0)) hok mmTape_isDigit mk_Tape_84 rfl (Nat.le_of_ble_eq_true rfl) rfl (Nat.le_of_ble_eq_true rfl) dTape_cutToken_115 rfl (by decide) H (fun v τ p19 => ?_)
      obtain ⟨r20, I21, L22, rfl, rfl, H⟩ := p19
      refine ev_if_eq 128 dTape_cutToken_118 (by decide) (fun c23 => ?_) (fun c23 => ?_)
      · have H := H.1 c23
        exact ev_sub [(0, .ref o), (1, .int x1), (2, .int x2), (3, .int x3)] rfl H
      · have H := H.2 c23
        refine ev_aload_n dTape_cutToken_121 rfl ?_
        refine ev_iload_n dTape_cutToken_122 rfl ?_
        refine ev_iload_n dTape_cutToken_123 rfl ?_
        refine ev_callV [.int x1, .int x3] [] (B' := (0, 0)) (B'' := (0, 0)) hok mmTape_cutNumber mk_Tape_87 (ci := 8) rfl rfl (woTape hw) rfl (Nat.le_of_ble_eq_true rfl) rfl (Nat.le_of_ble_eq_true rfl) dTape_cutToken_124 rfl (by decide) H (fun v τ p24 => ?_)
        obtain ⟨r25, I26, L27, rfl, rfl, H⟩ := p24
        exact ev_iret rfl dTape_cutToken_127 H
    · have H := H.2 c14
      refine ev_aload_n dTape_cutToken_78 rfl ?_
      refine ev_getI hok fk_Tape_41 (woTape hw) (fun _ _ _ => rfl) dTape_cutToken_79 ?_
      refine ev_if_eq 103 dTape_cutToken_82 (by decide) (fun c28 => ?_) (fun c28 => ?_)
      · have H := H.1 c28
        refine ev_aload_n dTape_cutToken_103 rfl ?_
        refine ev_iload_n dTape_cutToken_104 rfl ?_
        refine ev_iload_n dTape_cutToken_105 rfl ?_
        refine ev_callV [.int x1, .int x3] [] (B' := (0, 0)) (B'' := (0, 0)) hok mmTape_cutWord mk_Tape_81 (ci := 8) rfl rfl (woTape hw) rfl (Nat.le_of_ble_eq_true rfl) rfl (Nat.le_of_ble_eq_true rfl) dTape_cutToken_106 rfl (by decide) H (fun v τ p29 => ?_)
        obtain ⟨r30, I31, L32, rfl, rfl, H⟩ := p29
        exact ev_iret rfl dTape_cutToken_109 H
      · have H := H.2 c28
        refine ev_aload_n dTape_cutToken_85 rfl ?_
        refine ev_iload_n dTape_cutToken_86 rfl ?_
        refine ev_callV [.int x3] [] (B' := (0, 0)) (B'' := (0, 0)) hok mmTape_placeAt mk_Tape_75 (ci := 8) rfl rfl (woTape hw) rfl (Nat.le_of_ble_eq_true rfl) rfl (Nat.le_of_ble_eq_true rfl) dTape_cutToken_87 rfl (by decide) H (fun v τ p33 => ?_)
        obtain ⟨r34, I35, L36, rfl, rfl, H⟩ := p33
        refine ev_iconst (-1) dTape_cutToken_90 (by decide) ?_
        refine ev_icmp_eq 103 dTape_cutToken_91 (by decide) (fun c37 => ?_) (fun c37 => ?_)
        · have H := H.1 c37
          refine ev_aload_n dTape_cutToken_103 rfl ?_
          refine ev_iload_n dTape_cutToken_104 rfl ?_
          refine ev_iload_n dTape_cutToken_105 rfl ?_
          refine ev_callV [.int x1, .int x3] [] (B' := (0, 0)) (B'' := (0, 0)) hok mmTape_cutWord mk_Tape_81 (ci := 8) rfl rfl (woTape hw) rfl (Nat.le_of_ble_eq_true rfl) rfl (Nat.le_of_ble_eq_true rfl) dTape_cutToken_106 rfl (by decide) H (fun v τ p38 => ?_)
          obtain ⟨r39, I40, L41, rfl, rfl, H⟩ := p38
          exact ev_iret rfl dTape_cutToken_109 H
        · have H := H.2 c37
          refine ev_aload_n dTape_cutToken_94 rfl ?_
          refine ev_iload_n dTape_cutToken_95 rfl ?_
          refine ev_iload_n dTape_cutToken_96 rfl ?_
          refine ev_callV [.int x1, .int x3] [] (B' := (0, 0)) (B'' := (0, 0)) hok mmTape_cutPlace mk_Tape_78 (ci := 8) rfl rfl (woTape hw) rfl (Nat.le_of_ble_eq_true rfl) rfl (Nat.le_of_ble_eq_true rfl) dTape_cutToken_97 rfl (by decide) H (fun v τ p42 => ?_)
          obtain ⟨r43, I44, L45, rfl, rfl, H⟩ := p42
          refine ev_goto 109 dTape_cutToken_100 (by decide) ?_
          exact ev_iret rfl dTape_cutToken_109 H
  · have H := H.2 c5
    refine ev_aload_n dTape_cutToken_58 rfl ?_
    refine ev_getR hok fk_Tape_19 (woTape hw) (fun _ _ _ => rfl) (wrTape_2 hw) dTape_cutToken_59 ?_
    refine ev_iload_n dTape_cutToken_62 rfl ?_
    refine ev_iconst (0) dTape_cutToken_63 (by decide) ?_
    obtain ⟨h47, H⟩ := H
    refine ev_iast hok (waTape_2 hw) h47 dTape_cutToken_64 ?_
    generalize eI46 : q_u I3 (o + 3) (x1 : Int32).toNatClampNeg 0 = I46
    have H := H I46 eI46
    refine ev_iload_n dTape_cutToken_65 rfl ?_
    exact ev_iret rfl dTape_cutToken_66 H
def fTape_cutToken_30 (D : va_G) (cA : FieldType → ClassId) (b : Nat) (E : State → Prop) (o : Nat) (n : Nat) (sh : Nat → qC) (Rf : Nat → Nat → Option Nat) (I : Nat → Nat → Int32) (L : Nat → Nat → Int64) (post : Option Value → qS → Prop) (x1 : Int32) (x2 : Int32) (x3 : Int32) : Prop :=
  Ev (qGG D cA b E) mTape_cutToken 8 (0, 0) 2 [(0, .ref o), (1, .int x1), (2, .int x2), (3, .int ((x3 + Int32.ofInt 1)))] [] (n, sh, Rf, I, L) post
set_option maxHeartbeats 4000000 in
set_option maxRecDepth 20000 in
theorem sTape_cutToken_30 {D : va_G} {cA : FieldType → ClassId} {b : Nat} {E : State → Prop} (o : Nat) (n : Nat) (sh : Nat → qC) (Rf : Nat → Nat → Option Nat) (I : Nat → Nat → Int32) (L : Nat → Nat → Int64) (post : Option Value → qS → Prop) (x1 : Int32) (x2 : Int32) (x3 : Int32) (hok : q_ok (qGG D cA b E)) (hw : WfTape (qGG D cA b E) n sh Rf o) (H : fTape_cutToken_30 D cA b E o n sh Rf I L post x1 x2 x3) : Ev (qGG D cA b E) mTape_cutToken 8 (0, 0) 30 [(0, .ref o), (1, .int x1), (2, .int x2), (3, .int x3)] [] (n, sh, Rf, I, L) post := by
  unfold fTape_cutToken_30 at H
  refine ev_iinc dTape_cutToken_30 rfl (by decide) ?_
  refine ev_goto 2 dTape_cutToken_33 (by decide) ?_
  exact ev_sub [(0, .ref o), (1, .int x1), (2, .int x2), (3, .int ((x3 + Int32.ofInt 1)))] rfl H
def fTape_cutToken_2 (D : va_G) (cA : FieldType → ClassId) (b : Nat) (E : State → Prop) (o : Nat) (n : Nat) (sh : Nat → qC) (Rf : Nat → Nat → Option Nat) (I : Nat → Nat → Int32) (L : Nat → Nat → Int64) (post : Option Value → qS → Prop) (x1 : Int32) (x2 : Int32) (x3 : Int32) : Prop :=
  (((I o 6) ≤ x3 → fTape_cutToken_36 D cA b E o n sh Rf I L post x1 x2 x3) ∧ (¬ (I o 6) ≤ x3 → Ev (qGG D cA b E) mTape_byteAt 0 (0, 0) 0 (lv_args 0 [.ref o, .int x3]) [] (n, sh, Rf, I, L) (fun v τ => ∃ (r3 : Int32) (I4 : Nat → Nat → Int32) (L5 : Nat → Nat → Int64), v = some (.int r3) ∧ τ = (n, sh, Rf, I4, L5) ∧ ((r3 = 32 → fTape_cutToken_30 D cA b E o n sh Rf I4 L5 post x1 x2 x3) ∧ (¬ r3 = 32 → Ev (qGG D cA b E) mTape_byteAt 0 (0, 0) 0 (lv_args 0 [.ref o, .int x3]) [] (n, sh, Rf, I4, L5) (fun v τ => ∃ (r8 : Int32) (I9 : Nat → Nat → Int32) (L10 : Nat → Nat → Int64), v = some (.int r8) ∧ τ = (n, sh, Rf, I9, L10) ∧ ((¬ r8 = 10 → fTape_cutToken_36 D cA b E o n sh Rf I9 L10 post x1 x2 x3) ∧ (r8 = 10 → fTape_cutToken_30 D cA b E o n sh Rf I9 L10 post x1 x2 x3))))))))
set_option maxHeartbeats 4000000 in
set_option maxRecDepth 20000 in
theorem sTape_cutToken_2 {D : va_G} {cA : FieldType → ClassId} {b : Nat} {E : State → Prop} (o : Nat) (n : Nat) (sh : Nat → qC) (Rf : Nat → Nat → Option Nat) (I : Nat → Nat → Int32) (L : Nat → Nat → Int64) (post : Option Value → qS → Prop) (x1 : Int32) (x2 : Int32) (x3 : Int32) (hok : q_ok (qGG D cA b E)) (hw : WfTape (qGG D cA b E) n sh Rf o) (H : fTape_cutToken_2 D cA b E o n sh Rf I L post x1 x2 x3) : Ev (qGG D cA b E) mTape_cutToken 8 (0, 0) 2 [(0, .ref o), (1, .int x1), (2, .int x2), (3, .int x3)] [] (n, sh, Rf, I, L) post := by
  unfold fTape_cutToken_2 at H
  refine ev_iload_n dTape_cutToken_2 rfl ?_
  refine ev_aload_n dTape_cutToken_3 rfl ?_
  refine ev_getI hok fk_Tape_31 (woTape hw) (fun _ _ _ => rfl) dTape_cutToken_4 ?_
  refine ev_icmp_ge 36 dTape_cutToken_7 (by decide) (fun c1 => ?_) (fun c1 => ?_)
  · have H := H.1 c1
    exact ev_sub [(0, .ref o), (1, .int x1), (2, .int x2), (3, .int x3)] rfl (sTape_cutToken_36 o n sh Rf I L post x1 x2 x3 hok hw H)
  · have H := H.2 c1
    refine ev_aload_n dTape_cutToken_10 rfl ?_
    refine ev_iload_n dTape_cutToken_11 rfl ?_
    refine ev_callV [.int x3] [] (B' := (0, 0)) (B'' := (0, 0)) hok mmTape_byteAt mk_Tape_71 (ci := 8) rfl rfl (woTape hw) rfl (Nat.le_of_ble_eq_true rfl) rfl (Nat.le_of_ble_eq_true rfl) dTape_cutToken_12 rfl (by decide) H (fun v τ p2 => ?_)
    obtain ⟨r3, I4, L5, rfl, rfl, H⟩ := p2
    refine ev_bipush (32) dTape_cutToken_15 (by decide) ?_
    refine ev_icmp_eq 30 dTape_cutToken_17 (by decide) (fun c6 => ?_) (fun c6 => ?_)
    · have H := H.1 c6
      exact ev_sub [(0, .ref o), (1, .int x1), (2, .int x2), (3, .int x3)] rfl (sTape_cutToken_30 o n sh Rf I4 L5 post x1 x2 x3 hok hw H)
    · have H := H.2 c6
      refine ev_aload_n dTape_cutToken_20 rfl ?_
      refine ev_iload_n dTape_cutToken_21 rfl ?_
      refine ev_callV [.int x3] [] (B' := (0, 0)) (B'' := (0, 0)) hok mmTape_byteAt mk_Tape_71 (ci := 8) rfl rfl (woTape hw) rfl (Nat.le_of_ble_eq_true rfl) rfl (Nat.le_of_ble_eq_true rfl) dTape_cutToken_22 rfl (by decide) H (fun v τ p7 => ?_)
      obtain ⟨r8, I9, L10, rfl, rfl, H⟩ := p7
      refine ev_bipush (10) dTape_cutToken_25 (by decide) ?_
      refine ev_icmp_ne 36 dTape_cutToken_27 (by decide) (fun c11 => ?_) (fun c11 => ?_)
      · have H := H.1 c11
        exact ev_sub [(0, .ref o), (1, .int x1), (2, .int x2), (3, .int x3)] rfl (sTape_cutToken_36 o n sh Rf I9 L10 post x1 x2 x3 hok hw H)
      · have H := H.2 c11
        exact ev_sub [(0, .ref o), (1, .int x1), (2, .int x2), (3, .int x3)] rfl (sTape_cutToken_30 o n sh Rf I9 L10 post x1 x2 x3 hok hw H)
def fTape_cutToken_0 (D : va_G) (cA : FieldType → ClassId) (b : Nat) (E : State → Prop) (o : Nat) (n : Nat) (sh : Nat → qC) (Rf : Nat → Nat → Option Nat) (I : Nat → Nat → Int32) (L : Nat → Nat → Int64) (post : Option Value → qS → Prop) (x1 : Int32) (x2 : Int32) : Prop :=
  Ev (qGG D cA b E) mTape_cutToken 8 (0, 0) 2 [(0, .ref o), (1, .int x1), (2, .int x2), (3, .int x2)] [] (n, sh, Rf, I, L) post
set_option maxHeartbeats 4000000 in
set_option maxRecDepth 20000 in
theorem sTape_cutToken_0 {D : va_G} {cA : FieldType → ClassId} {b : Nat} {E : State → Prop} (o : Nat) (n : Nat) (sh : Nat → qC) (Rf : Nat → Nat → Option Nat) (I : Nat → Nat → Int32) (L : Nat → Nat → Int64) (post : Option Value → qS → Prop) (x1 : Int32) (x2 : Int32) (hok : q_ok (qGG D cA b E)) (hw : WfTape (qGG D cA b E) n sh Rf o) (H : fTape_cutToken_0 D cA b E o n sh Rf I L post x1 x2) : Ev (qGG D cA b E) mTape_cutToken 8 (0, 0) 0 [(0, .ref o), (1, .int x1), (2, .int x2)] [] (n, sh, Rf, I, L) post := by
  unfold fTape_cutToken_0 at H
  refine ev_iload_n dTape_cutToken_0 rfl ?_
  refine ev_istore_n dTape_cutToken_1 (by decide) ?_
  exact ev_sub [(0, .ref o), (1, .int x1), (2, .int x2), (3, .int x2)] rfl H
