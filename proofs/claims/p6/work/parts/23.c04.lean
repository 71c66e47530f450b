/-! Walks of the class: by program. -/
def fTape_takeNumberBehind_0 (D : va_G) (cA : FieldType → ClassId) (b : Nat) (E : State → Prop) (o : Nat) (n : Nat) (sh : Nat → qC) (Rf : Nat → Nat → Option Nat) (I : Nat → Nat → Int32) (L : Nat → Nat → Int64) (post : Option Value → qS → Prop) (x1 : Int32) (x2 : Int32) (x3 : Int32) : Prop :=
  Ev (qGG D cA b E) mTape_isWord 0 (0, 0) 0 (lv_args 0 [.ref o, .int x1]) [] (n, sh, Rf, I, L) (fun v τ => ∃ (r2 : Int32) (I3 : Nat → Nat → Int32) (L4 : Nat → Nat → Int64), v = some (.int r2) ∧ τ = (n, sh, Rf, I3, L4) ∧ Ev (qGG D cA b E) mTape_passIf 1 (0, 0) 0 (lv_args 0 [.ref o, .int r2]) [] (n, sh, Rf, I3, L4) (fun v τ => ∃ (I7 : Nat → Nat → Int32) (L8 : Nat → Nat → Int64), v = none ∧ τ = (n, sh, Rf, I7, L8) ∧ Ev (qGG D cA b E) mTape_takeNumber 1 (0, 0) 0 (lv_args 0 [.ref o, .int x2, .int x3]) [] (n, sh, Rf, I7, L8) (fun v τ => ∃ (r10 : Int32) (I11 : Nat → Nat → Int32) (L12 : Nat → Nat → Int64), v = some (.int r10) ∧ τ = (n, sh, Rf, I11, L12) ∧ post (some (.int r10)) (n, sh, Rf, I11, L12))))
set_option maxHeartbeats 4000000 in
set_option maxRecDepth 20000 in
theorem sTape_takeNumberBehind_0 {D : va_G} {cA : FieldType → ClassId} {b : Nat} {E : State → Prop} (o : Nat) (n : Nat) (sh : Nat → qC) (Rf : Nat → Nat → Option Nat) (I : Nat → Nat → Int32) (L : Nat → Nat → Int64) (post : Option Value → qS → Prop) (x1 : Int32) (x2 : Int32) (x3 : Int32) (hok : q_ok (qGG D cA b E)) (hw : WfTape (qGG D cA b E) n sh Rf o) (H : fTape_takeNumberBehind_0 D cA b E o n sh Rf I L post x1 x2 x3) : Ev (qGG D cA b E) mTape_takeNumberBehind 2 (0, 0) 0 [(0, .ref o), (1, .int x1), (2, .int x2), (3, .int x3)] [] (n, sh, Rf, I, L) post := by
  unfold fTape_takeNumberBehind_0 at H
  refine ev_aload_n dTape_takeNumberBehind_0 rfl ?_
  refine ev_aload_n dTape_takeNumberBehind_1 rfl ?_
  refine ev_iload_n dTape_takeNumberBehind_2 rfl ?_
  refine ev_callV [.int x1] [.ref o] (B' := (0, 0)) (B'' := (0, 0)) hok mmTape_isWord mk_Tape_117 (ci := 8) rfl rfl (woTape hw) rfl (Nat.le_of_ble_eq_true rfl) rfl (Nat.le_of_ble_eq_true rfl) dTape_takeNumberBehind_3 rfl (by decide) H (fun v τ p1 => ?_)
  obtain ⟨r2, I3, L4, rfl, rfl, H⟩ := p1
  refine ev_callV [.int r2] [] (B' := (0, 0)) (B'' := (0, 0)) hok mmTape_passIf mk_Tape_109 (ci := 8) rfl rfl (woTape hw) rfl (Nat.le_of_ble_eq_true rfl) rfl (Nat.le_of_ble_eq_true rfl) dTape_takeNumberBehind_6 rfl (by decide) H (fun v τ p5 => ?_)
  obtain ⟨I7, L8, rfl, rfl, H⟩ := p5
  refine ev_aload_n dTape_takeNumberBehind_9 rfl ?_
  refine ev_iload_n dTape_takeNumberBehind_10 rfl ?_
  refine ev_iload_n dTape_takeNumberBehind_11 rfl ?_
  refine ev_callV [.int x2, .int x3] [] (B' := (0, 0)) (B'' := (0, 0)) hok mmTape_takeNumber mk_Tape_120 (ci := 8) rfl rfl (woTape hw) rfl (Nat.le_of_ble_eq_true rfl) rfl (Nat.le_of_ble_eq_true rfl) dTape_takeNumberBehind_12 rfl (by decide) H (fun v τ p9 => ?_)
  obtain ⟨r10, I11, L12, rfl, rfl, H⟩ := p9
  exact ev_iret rfl dTape_takeNumberBehind_15 H
def fWay_weighBuying_0 (D : va_G) (cA : FieldType → ClassId) (b : Nat) (E : State → Prop) (o : Nat) (n : Nat) (sh : Nat → qC) (Rf : Nat → Nat → Option Nat) (I : Nat → Nat → Int32) (L : Nat → Nat → Int64) (post : Option Value → qS → Prop) (x1 : Nat) (x2 : Int32) : Prop :=
  (((I (x1 + 60) 2) ≤ 0 → post none (n, sh, Rf, I, L)) ∧ (¬ (I (x1 + 60) 2) ≤ 0 → Ev (qGG D cA b E) mWay_affordable 1 (0, 0) 0 (lv_args 0 [.ref x1, .int x2, .int ((10 * (I (x1 + 60) 2)))]) [] (n, sh, Rf, I, L) (fun v τ => ∃ (r3 : Int32) (I4 : Nat → Nat → Int32) (L5 : Nat → Nat → Int64), v = some (.int r3) ∧ τ = (n, sh, Rf, I4, L5) ∧ ∀ y6 : Int32, ((if ((I4 x1 18) / 10) < r3 then ((I4 x1 18) / 10) else r3) : Int32) = y6 → Ev (qGG D cA b E) mWay_weigh 0 (0, 0) 0 (lv_args 0 [.ref o, .int 4, .int ((-1)), .int ((-1)), .int y6, .int ((y6 * 10)), .long ((((y6 * 10) : Int32).toInt64 * ((L5 o 7) - ((I (x1 + 60) 2) : Int32).toInt64)))]) [] (n, sh, Rf, I4, L5) (fun v τ => ∃ (I9 : Nat → Nat → Int32) (L10 : Nat → Nat → Int64), v = none ∧ τ = (n, sh, Rf, I9, L10) ∧ post none (n, sh, Rf, I9, L10)))))
set_option maxHeartbeats 4000000 in
set_option maxRecDepth 20000 in
theorem sWay_weighBuying_0 {D : va_G} {cA : FieldType → ClassId} {b : Nat} {E : State → Prop} (o : Nat) (n : Nat) (sh : Nat → qC) (Rf : Nat → Nat → Option Nat) (I : Nat → Nat → Int32) (L : Nat → Nat → Int64) (post : Option Value → qS → Prop) (x1 : Nat) (x2 : Int32) (hok : q_ok (qGG D cA b E)) (hw : WfWay (qGG D cA b E) n sh Rf o) (hw1 : WfRun (qGG D cA b E) n sh Rf x1) (H : fWay_weighBuying_0 D cA b E o n sh Rf I L post x1 x2) : Ev (qGG D cA b E) mWay_weighBuying 2 (0, 0) 0 [(0, .ref o), (1, .ref x1), (2, .int x2)] [] (n, sh, Rf, I, L) post := by
  unfold fWay_weighBuying_0 at H
  refine ev_aload_n dWay_weighBuying_0 rfl ?_
  refine ev_getR hok fk_Way_146 (woRun hw1) (fun _ _ _ => rfl) (wrRun_9 hw1) dWay_weighBuying_1 ?_
  refine ev_iconst (2) dWay_weighBuying_4 (by decide) ?_
  refine ev_iald hok (waRun_9 hw1) (by unfold vp_in; decide) dWay_weighBuying_5 ?_
  rw [show (2 : Int32).toNatClampNeg = 2 from rfl]
  refine ev_istore_n dWay_weighBuying_6 (by decide) ?_
  refine ev_iload_n dWay_weighBuying_7 rfl ?_
  refine ev_if_le 60 dWay_weighBuying_8 (by decide) (fun c1 => ?_) (fun c1 => ?_)
  · have H := H.1 c1
    exact ev_vret rfl dWay_weighBuying_60 H
  · have H := H.2 c1
    refine ev_aload_n dWay_weighBuying_11 rfl ?_
    refine ev_iload_n dWay_weighBuying_12 rfl ?_
    refine ev_bipush (10) dWay_weighBuying_13 (by decide) ?_
    refine ev_iload_n dWay_weighBuying_15 rfl ?_
    refine ev_imul dWay_weighBuying_16 ?_
    refine ev_callS [.ref x1, .int x2, .int ((10 * (I (x1 + 60) 2)))] [] (B' := (0, 0)) (B'' := (0, 0)) hok mmWay_affordable mk_Way_109 rfl (Nat.le_of_ble_eq_true rfl) rfl (Nat.le_of_ble_eq_true rfl) dWay_weighBuying_17 rfl (by decide) H (fun v τ p2 => ?_)
    obtain ⟨r3, I4, L5, rfl, rfl, H⟩ := p2
    refine ev_aload_n dWay_weighBuying_20 rfl ?_
    refine ev_getI hok fk_Way_149 (woRun hw1) (fun _ _ _ => rfl) dWay_weighBuying_21 ?_
    refine ev_bipush (10) dWay_weighBuying_24 (by decide) ?_
    refine ev_idiv dWay_weighBuying_26 (by decide) ?_
    refine ev_mmin (by decide) (q_t6 79 (by decide +kernel) rfl) (q_t4 44 (by decide +kernel) rfl) (q_t1 19 (by decide +kernel) rfl) (q_t4 45 rfl rfl) (Nat.le_of_ble_eq_true rfl) dWay_weighBuying_27 ?_
    generalize ey6 : ((if ((I4 x1 18) / 10) < r3 then ((I4 x1 18) / 10) else r3) : Int32) = y6
    have H := H y6 ey6
    refine ev_istore dWay_weighBuying_30 (by decide) ?_
    refine ev_aload_n dWay_weighBuying_32 rfl ?_
    refine ev_iconst (4) dWay_weighBuying_33 (by decide) ?_
    refine ev_iconst (-1) dWay_weighBuying_34 (by decide) ?_
    refine ev_iconst (-1) dWay_weighBuying_35 (by decide) ?_
    refine ev_iload dWay_weighBuying_36 rfl ?_
    refine ev_iload dWay_weighBuying_38 rfl ?_
    refine ev_bipush (10) dWay_weighBuying_40 (by decide) ?_
    refine ev_imul dWay_weighBuying_42 ?_
    refine ev_iload dWay_weighBuying_43 rfl ?_
    refine ev_bipush (10) dWay_weighBuying_45 (by decide) ?_
    refine ev_imul dWay_weighBuying_47 ?_
    refine ev_i2l dWay_weighBuying_48 ?_
    refine ev_aload_n dWay_weighBuying_49 rfl ?_
    refine ev_getL hok fk_Way_34 (woWay hw) (fun _ _ _ => rfl) dWay_weighBuying_50 ?_
    refine ev_iload_n dWay_weighBuying_53 rfl ?_
    refine ev_i2l dWay_weighBuying_54 ?_
    refine ev_lsub dWay_weighBuying_55 ?_
    refine ev_lmul dWay_weighBuying_56 ?_
    refine ev_callV [.int 4, .int ((-1)), .int ((-1)), .int y6, .int ((y6 * 10)), .long ((((y6 * 10) : Int32).toInt64 * ((L5 o 7) - ((I (x1 + 60) 2) : Int32).toInt64)))] [] (B' := (0, 0)) (B'' := (0, 0)) hok mmWay_weigh mk_Way_127 (ci := 10) rfl rfl (woWay hw) rfl (Nat.le_of_ble_eq_true rfl) rfl (Nat.le_of_ble_eq_true rfl) dWay_weighBuying_57 rfl (by decide) H (fun v τ p7 => ?_)
    obtain ⟨I9, L10, rfl, rfl, H⟩ := p7
    exact ev_vret rfl dWay_weighBuying_60 H
def fLand_readFort_0 (D : va_G) (cA : FieldType → ClassId) (b : Nat) (E : State → Prop) (o : Nat) (n : Nat) (sh : Nat → qC) (Rf : Nat → Nat → Option Nat) (I : Nat → Nat → Int32) (L : Nat → Nat → Int64) (post : Option Value → qS → Prop) (x1 : Nat) : Prop :=
  Ev (qGG D cA b E) mTape_step 0 (0, 0) 0 (lv_args 0 [.ref x1]) [] (n, sh, Rf, I, L) (fun v τ => ∃ (I3 : Nat → Nat → Int32) (L4 : Nat → Nat → Int64), v = none ∧ τ = (n, sh, Rf, I3, L4) ∧ Ev (qGG D cA b E) mLand_readName 1 (0, 0) 0 (lv_args 0 [.ref o, .ref x1]) [] (n, sh, Rf, I3, L4) (fun v τ => ∃ (I7 : Nat → Nat → Int32) (L8 : Nat → Nat → Int64), v = none ∧ τ = (n, sh, Rf, I7, L8) ∧ Ev (qGG D cA b E) mLand_readSite 2 (0, 0) 0 (lv_args 0 [.ref o, .ref x1]) [] (n, sh, Rf, I7, L8) (fun v τ => ∃ (r10 : Int32) (I11 : Nat → Nat → Int32) (L12 : Nat → Nat → Int64), v = some (.int r10) ∧ τ = (n, sh, Rf, I11, L12) ∧ vp_in (I7 o 1) 3 ∧ ∀ I13 : Nat → Nat → Int32, q_u I11 (o + 3) ((I7 o 1) : Int32).toNatClampNeg r10 = I13 → Ev (qGG D cA b E) mTape_takeNumberBehind 2 (0, 0) 0 (lv_args 0 [.ref x1, .int 3, .int 0, .int 999]) [] (n, sh, Rf, I13, L12) (fun v τ => ∃ (r16 : Int32) (I17 : Nat → Nat → Int32) (L18 : Nat → Nat → Int64), v = some (.int r16) ∧ τ = (n, sh, Rf, I17, L18) ∧ vp_in (I13 o 1) 3 ∧ ∀ I19 : Nat → Nat → Int32, q_u I17 (o + 4) ((I13 o 1) : Int32).toNatClampNeg r16 = I19 → Ev (qGG D cA b E) mTape_takeNumberBehind 2 (0, 0) 0 (lv_args 0 [.ref x1, .int 4, .int 0, .int 9999]) [] (n, sh, Rf, I19, L18) (fun v τ => ∃ (r22 : Int32) (I23 : Nat → Nat → Int32) (L24 : Nat → Nat → Int64), v = some (.int r22) ∧ τ = (n, sh, Rf, I23, L24) ∧ vp_in (I19 o 1) 3 ∧ ∀ I25 : Nat → Nat → Int32, q_u I23 (o + 5) ((I19 o 1) : Int32).toNatClampNeg r22 = I25 → Ev (qGG D cA b E) mTape_closeLine 2 (0, 0) 0 (lv_args 0 [.ref x1]) [] (n, sh, Rf, I25, L24) (fun v τ => ∃ (r28 : Int32) (I29 : Nat → Nat → Int32) (L30 : Nat → Nat → Int64), v = some (.int r28) ∧ τ = (n, sh, Rf, I29, L30) ∧ ((¬ r28 = 0 → ∀ I32 : Nat → Nat → Int32, q_u I29 o 1 ((I29 o 1) + 1) = I32 → post (some (.int 1)) (n, sh, Rf, I32, L30)) ∧ (r28 = 0 → post (some (.int 0)) (n, sh, Rf, I29, L30)))))))))
set_option maxHeartbeats 4000000 in
set_option maxRecDepth 20000 in
theorem sLand_readFort_0 {D : va_G} {cA : FieldType → ClassId} {b : Nat} {E : State → Prop} (o : Nat) (n : Nat) (sh : Nat → qC) (Rf : Nat → Nat → Option Nat) (I : Nat → Nat → Int32) (L : Nat → Nat → Int64) (post : Option Value → qS → Prop) (x1 : Nat) (hok : q_ok (qGG D cA b E)) (hw : WfLand (qGG D cA b E) n sh Rf o) (hw1 : WfTape (qGG D cA b E) n sh Rf x1) (H : fLand_readFort_0 D cA b E o n sh Rf I L post x1) : Ev (qGG D cA b E) mLand_readFort 3 (0, 0) 0 [(0, .ref o), (1, .ref x1)] [] (n, sh, Rf, I, L) post := by
  unfold fLand_readFort_0 at H
  refine ev_aload_n dLand_readFort_0 rfl ?_
  refine ev_callV [] [] (B' := (0, 0)) (B'' := (0, 0)) hok mmTape_step mk_Land_120 (ci := 8) rfl rfl (woTape hw1) rfl (Nat.le_of_ble_eq_true rfl) rfl (Nat.le_of_ble_eq_true rfl) dLand_readFort_1 rfl (by decide) H (fun v τ p1 => ?_)
  obtain ⟨I3, L4, rfl, rfl, H⟩ := p1
  refine ev_aload_n dLand_readFort_4 rfl ?_
  refine ev_aload_n dLand_readFort_5 rfl ?_
  refine ev_callV [.ref x1] [] (B' := (0, 0)) (B'' := (0, 0)) hok mmLand_readName mk_Land_138 (ci := 1) rfl rfl (woLand hw) rfl (Nat.le_of_ble_eq_true rfl) rfl (Nat.le_of_ble_eq_true rfl) dLand_readFort_6 rfl (by decide) H (fun v τ p5 => ?_)
  obtain ⟨I7, L8, rfl, rfl, H⟩ := p5
  refine ev_aload_n dLand_readFort_9 rfl ?_
  refine ev_getR hok fk_Land_35 (woLand hw) (fun _ _ _ => rfl) (wrLand_7 hw) dLand_readFort_10 ?_
  refine ev_aload_n dLand_readFort_13 rfl ?_
  refine ev_getI hok fk_Land_15 (woLand hw) (fun _ _ _ => rfl) dLand_readFort_14 ?_
  refine ev_aload_n dLand_readFort_17 rfl ?_
  refine ev_aload_n dLand_readFort_18 rfl ?_
  refine ev_callV [.ref x1] [.int ((I7 o 1)), .ref ((o + 3))] (B' := (0, 0)) (B'' := (0, 0)) hok mmLand_readSite mk_Land_142 (ci := 1) rfl rfl (woLand hw) rfl (Nat.le_of_ble_eq_true rfl) rfl (Nat.le_of_ble_eq_true rfl) dLand_readFort_19 rfl (by decide) H (fun v τ p9 => ?_)
  obtain ⟨r10, I11, L12, rfl, rfl, H⟩ := p9
  obtain ⟨h14, H⟩ := H
  refine ev_iast hok (waLand_7 hw) h14 dLand_readFort_22 ?_
  generalize eI13 : q_u I11 (o + 3) ((I7 o 1) : Int32).toNatClampNeg r10 = I13
  have H := H I13 eI13
  refine ev_aload_n dLand_readFort_23 rfl ?_
  refine ev_getR hok fk_Land_38 (woLand hw) (fun _ _ _ => rfl) (wrLand_8 hw) dLand_readFort_24 ?_
  refine ev_aload_n dLand_readFort_27 rfl ?_
  refine ev_getI hok fk_Land_15 (woLand hw) (fun _ _ _ => rfl) dLand_readFort_28 ?_
  refine ev_aload_n dLand_readFort_31 rfl ?_
  refine ev_iconst (3) dLand_readFort_32 (by decide) ?_
  refine ev_iconst (0) dLand_readFort_33 (by decide) ?_
  refine ev_sipush (999) dLand_readFort_34 (by decide) ?_
  refine ev_callV [.int 3, .int 0, .int 999] [.int ((I13 o 1)), .ref ((o + 4))] (B' := (0, 0)) (B'' := (0, 0)) hok mmTape_takeNumberBehind mk_Land_146 (ci := 8) rfl rfl (woTape hw1) rfl (Nat.le_of_ble_eq_true rfl) rfl (Nat.le_of_ble_eq_true rfl) dLand_readFort_37 rfl (by decide) H (fun v τ p15 => ?_)
  obtain ⟨r16, I17, L18, rfl, rfl, H⟩ := p15
  obtain ⟨h20, H⟩ := H
  refine ev_iast hok (waLand_8 hw) h20 dLand_readFort_40 ?_
  generalize eI19 : q_u I17 (o + 4) ((I13 o 1) : Int32).toNatClampNeg r16 = I19
  have H := H I19 eI19
  refine ev_aload_n dLand_readFort_41 rfl ?_
  refine ev_getR hok fk_Land_41 (woLand hw) (fun _ _ _ => rfl) (wrLand_9 hw) dLand_readFort_42 ?_
  refine ev_aload_n dLand_readFort_45 rfl ?_
  refine ev_getI hok fk_Land_15 (woLand hw) (fun _ _ _ => rfl) dLand_readFort_46 ?_
  refine ev_aload_n dLand_readFort_49 rfl ?_
  refine ev_iconst (4) dLand_readFort_50 (by decide) ?_
  refine ev_iconst (0) dLand_readFort_51 (by decide) ?_
  refine ev_sipush (9999) dLand_readFort_52 (by decide) ?_
  refine ev_callV [.int 4, .int 0, .int 9999] [.int ((I19 o 1)), .ref ((o + 5))] (B' := (0, 0)) (B'' := (0, 0)) hok mmTape_takeNumberBehind mk_Land_146 (ci := 8) rfl rfl (woTape hw1) rfl (Nat.le_of_ble_eq_true rfl) rfl (Nat.le_of_ble_eq_true rfl) dLand_readFort_55 rfl (by decide) H (fun v τ p21 => ?_)
  obtain ⟨r22, I23, L24, rfl, rfl, H⟩ := p21
  obtain ⟨h26, H⟩ := H
  refine ev_iast hok (waLand_9 hw) h26 dLand_readFort_58 ?_
  generalize eI25 : q_u I23 (o + 5) ((I19 o 1) : Int32).toNatClampNeg r22 = I25
  have H := H I25 eI25
  refine ev_aload_n dLand_readFort_59 rfl ?_
  refine ev_callV [] [] (B' := (0, 0)) (B'' := (0, 0)) hok mmTape_closeLine mk_Land_131 (ci := 8) rfl rfl (woTape hw1) rfl (Nat.le_of_ble_eq_true rfl) rfl (Nat.le_of_ble_eq_true rfl) dLand_readFort_60 rfl (by decide) H (fun v τ p27 => ?_)
  obtain ⟨r28, I29, L30, rfl, rfl, H⟩ := p27
  refine ev_if_ne 68 dLand_readFort_63 (by decide) (fun c31 => ?_) (fun c31 => ?_)
  · have H := H.1 c31
    refine ev_aload_n dLand_readFort_68 rfl ?_
    refine ev_dup dLand_readFort_69 rfl ?_
    refine ev_getI hok fk_Land_15 (woLand hw) (fun _ _ _ => rfl) dLand_readFort_70 ?_
    refine ev_iconst (1) dLand_readFort_73 (by decide) ?_
    refine ev_iadd dLand_readFort_74 ?_
    refine ev_putI hok fk_Land_15 (woLand hw) (fun _ _ _ => rfl) rfl rfl dLand_readFort_75 ?_
    generalize eI32 : q_u I29 o 1 ((I29 o 1) + 1) = I32
    have H := H I32 eI32
    refine ev_iconst (1) dLand_readFort_78 (by decide) ?_
    exact ev_zret rfl (by decide) dLand_readFort_79 H
  · have H := H.2 c31
    refine ev_iconst (0) dLand_readFort_66 (by decide) ?_
    exact ev_zret rfl (by decide) dLand_readFort_67 H
def fLand_readPan_122 (D : va_G) (cA : FieldType → ClassId) (b : Nat) (E : State → Prop) (o : Nat) (n : Nat) (sh : Nat → qC) (Rf : Nat → Nat → Option Nat) (I : Nat → Nat → Int32) (L : Nat → Nat → Int64) (post : Option Value → qS → Prop) (x1 : Nat) (x2 : Int32) (x3 : Int32) : Prop :=
  ((5 ≤ x3 → Ev (qGG D cA b E) mTape_closeLine 2 (0, 0) 0 (lv_args 0 [.ref x1]) [] (n, sh, Rf, I, L) (fun v τ => ∃ (r3 : Int32) (I4 : Nat → Nat → Int32) (L5 : Nat → Nat → Int64), v = some (.int r3) ∧ τ = (n, sh, Rf, I4, L5) ∧ ((¬ r3 = 0 → ∀ I7 : Nat → Nat → Int32, q_u I4 o 2 ((I4 o 2) + 1) = I7 → post (some (.int 1)) (n, sh, Rf, I7, L5)) ∧ (r3 = 0 → post (some (.int 0)) (n, sh, Rf, I4, L5))))) ∧ (¬ 5 ≤ x3 → Ev (qGG D cA b E) mTape_isNumber 0 (0, 0) 0 (lv_args 0 [.ref x1]) [] (n, sh, Rf, I, L) (fun v τ => ∃ (r9 : Int32) (I10 : Nat → Nat → Int32) (L11 : Nat → Nat → Int64), v = some (.int r9) ∧ τ = (n, sh, Rf, I10, L11) ∧ ((r9 = 0 → Ev (qGG D cA b E) mTape_closeLine 2 (0, 0) 0 (lv_args 0 [.ref x1]) [] (n, sh, Rf, I10, L11) (fun v τ => ∃ (r14 : Int32) (I15 : Nat → Nat → Int32) (L16 : Nat → Nat → Int64), v = some (.int r14) ∧ τ = (n, sh, Rf, I15, L16) ∧ ((¬ r14 = 0 → ∀ I18 : Nat → Nat → Int32, q_u I15 o 2 ((I15 o 2) + 1) = I18 → post (some (.int 1)) (n, sh, Rf, I18, L16)) ∧ (r14 = 0 → post (some (.int 0)) (n, sh, Rf, I15, L16))))) ∧ (¬ r9 = 0 → Ev (qGG D cA b E) mLand_readDistrict 2 (0, 0) 0 (lv_args 0 [.ref o, .ref x1]) [] (n, sh, Rf, I10, L11) (fun v τ => ∃ (I21 : Nat → Nat → Int32) (L22 : Nat → Nat → Int64), v = none ∧ τ = (n, sh, Rf, I21, L22) ∧ Ev (qGG D cA b E) mLand_readPan 3 (0, 0) 122 [(0, .ref o), (1, .ref x1), (2, .int x2), (3, .int ((x3 + Int32.ofInt 1)))] [] (n, sh, Rf, I21, L22) post))))))
set_option maxHeartbeats 4000000 in
set_option maxRecDepth 20000 in
theorem sLand_readPan_122 {D : va_G} {cA : FieldType → ClassId} {b : Nat} {E : State → Prop} (o : Nat) (n : Nat) (sh : Nat → qC) (Rf : Nat → Nat → Option Nat) (I : Nat → Nat → Int32) (L : Nat → Nat → Int64) (post : Option Value → qS → Prop) (x1 : Nat) (x2 : Int32) (x3 : Int32) (hok : q_ok (qGG D cA b E)) (hw : WfLand (qGG D cA b E) n sh Rf o) (hw1 : WfTape (qGG D cA b E) n sh Rf x1) (H : fLand_readPan_122 D cA b E o n sh Rf I L post x1 x2 x3) : Ev (qGG D cA b E) mLand_readPan 3 (0, 0) 122 [(0, .ref o), (1, .ref x1), (2, .int x2), (3, .int x3)] [] (n, sh, Rf, I, L) post := by
  unfold fLand_readPan_122 at H
  refine ev_iload_n dLand_readPan_122 rfl ?_
  refine ev_iconst (5) dLand_readPan_123 (by decide) ?_
  refine ev_icmp_ge 145 dLand_readPan_124 (by decide) (fun c1 => ?_) (fun c1 => ?_)
  · have H := H.1 c1
    refine ev_aload_n dLand_readPan_145 rfl ?_
    refine ev_callV [] [] (B' := (0, 0)) (B'' := (0, 0)) hok mmTape_closeLine mk_Land_131 (ci := 8) rfl rfl (woTape hw1) rfl (Nat.le_of_ble_eq_true rfl) rfl (Nat.le_of_ble_eq_true rfl) dLand_readPan_146 rfl (by decide) H (fun v τ p2 => ?_)
    obtain ⟨r3, I4, L5, rfl, rfl, H⟩ := p2
    refine ev_if_ne 154 dLand_readPan_149 (by decide) (fun c6 => ?_) (fun c6 => ?_)
    · have H := H.1 c6
      refine ev_aload_n dLand_readPan_154 rfl ?_
      refine ev_dup dLand_readPan_155 rfl ?_
      refine ev_getI hok fk_Land_18 (woLand hw) (fun _ _ _ => rfl) dLand_readPan_156 ?_
      refine ev_iconst (1) dLand_readPan_159 (by decide) ?_
      refine ev_iadd dLand_readPan_160 ?_
      refine ev_putI hok fk_Land_18 (woLand hw) (fun _ _ _ => rfl) rfl rfl dLand_readPan_161 ?_
      generalize eI7 : q_u I4 o 2 ((I4 o 2) + 1) = I7
      have H := H I7 eI7
      refine ev_iconst (1) dLand_readPan_164 (by decide) ?_
      exact ev_zret rfl (by decide) dLand_readPan_165 H
    · have H := H.2 c6
      refine ev_iconst (0) dLand_readPan_152 (by decide) ?_
      exact ev_zret rfl (by decide) dLand_readPan_153 H
  · have H := H.2 c1
    refine ev_aload_n dLand_readPan_127 rfl ?_
    refine ev_callV [] [] (B' := (0, 0)) (B'' := (0, 0)) hok mmTape_isNumber mk_Land_161 (ci := 8) rfl rfl (woTape hw1) rfl (Nat.le_of_ble_eq_true rfl) rfl (Nat.le_of_ble_eq_true rfl) dLand_readPan_128 rfl (by decide) H (fun v τ p8 => ?_)
    obtain ⟨r9, I10, L11, rfl, rfl, H⟩ := p8
    refine ev_if_eq 145 dLand_readPan_131 (by decide) (fun c12 => ?_) (fun c12 => ?_)
    · have H := H.1 c12
      refine ev_aload_n dLand_readPan_145 rfl ?_
      refine ev_callV [] [] (B' := (0, 0)) (B'' := (0, 0)) hok mmTape_closeLine mk_Land_131 (ci := 8) rfl rfl (woTape hw1) rfl (Nat.le_of_ble_eq_true rfl) rfl (Nat.le_of_ble_eq_true rfl) dLand_readPan_146 rfl (by decide) H (fun v τ p13 => ?_)
      obtain ⟨r14, I15, L16, rfl, rfl, H⟩ := p13
      refine ev_if_ne 154 dLand_readPan_149 (by decide) (fun c17 => ?_) (fun c17 => ?_)
      · have H := H.1 c17
        refine ev_aload_n dLand_readPan_154 rfl ?_
        refine ev_dup dLand_readPan_155 rfl ?_
        refine ev_getI hok fk_Land_18 (woLand hw) (fun _ _ _ => rfl) dLand_readPan_156 ?_
        refine ev_iconst (1) dLand_readPan_159 (by decide) ?_
        refine ev_iadd dLand_readPan_160 ?_
        refine ev_putI hok fk_Land_18 (woLand hw) (fun _ _ _ => rfl) rfl rfl dLand_readPan_161 ?_
        generalize eI18 : q_u I15 o 2 ((I15 o 2) + 1) = I18
        have H := H I18 eI18
        refine ev_iconst (1) dLand_readPan_164 (by decide) ?_
        exact ev_zret rfl (by decide) dLand_readPan_165 H
      · have H := H.2 c17
        refine ev_iconst (0) dLand_readPan_152 (by decide) ?_
        exact ev_zret rfl (by decide) dLand_readPan_153 H
    · have H := H.2 c12
      refine ev_aload_n dLand_readPan_134 rfl ?_
      refine ev_aload_n dLand_readPan_135 rfl ?_
      refine ev_callV [.ref x1] [] (B' := (0, 0)) (B'' := (0, 0)) hok mmLand_readDistrict mk_Land_158 (ci := 1) rfl rfl (woLand hw) rfl (Nat.le_of_ble_eq_true rfl) rfl (Nat.le_of_ble_eq_true rfl) dLand_readPan_136 rfl (by decide) H (fun v τ p19 => ?_)
      obtain ⟨I21, L22, rfl, rfl, H⟩ := p19
      refine ev_iinc dLand_readPan_139 rfl (by decide) ?_
      refine ev_goto 122 dLand_readPan_142 (by decide) ?_
      exact ev_sub [(0, .ref o), (1, .ref x1), (2, .int x2), (3, .int ((x3 + Int32.ofInt 1)))] rfl H
def fLand_readPan_37 (D : va_G) (cA : FieldType → ClassId) (b : Nat) (E : State → Prop) (o : Nat) (n : Nat) (sh : Nat → qC) (Rf : Nat → Nat → Option Nat) (I : Nat → Nat → Int32) (L : Nat → Nat → Int64) (post : Option Value → qS → Prop) (x1 : Nat) (x2 : Int32) (x3 : Int32) : Prop :=
  ((12 ≤ x3 → ∀ y2 : Int32, ((if 1 < (x2 / 12) then (x2 / 12) else 1) : Int32) = y2 → vp_in (I o 2) 3 ∧ ∀ I3 : Nat → Nat → Int32, q_u I (o + 9) ((I o 2) : Int32).toNatClampNeg y2 = I3 → Ev (qGG D cA b E) mTape_isWord 0 (0, 0) 0 (lv_args 0 [.ref x1, .int 7]) [] (n, sh, Rf, I3, L) (fun v τ => ∃ (r6 : Int32) (I7 : Nat → Nat → Int32) (L8 : Nat → Nat → Int64), v = some (.int r6) ∧ τ = (n, sh, Rf, I7, L8) ∧ Ev (qGG D cA b E) mTape_passIf 1 (0, 0) 0 (lv_args 0 [.ref x1, .int r6]) [] (n, sh, Rf, I7, L8) (fun v τ => ∃ (I11 : Nat → Nat → Int32) (L12 : Nat → Nat → Int64), v = none ∧ τ = (n, sh, Rf, I11, L12) ∧ Ev (qGG D cA b E) mLand_readDistrict 2 (0, 0) 0 (lv_args 0 [.ref o, .ref x1]) [] (n, sh, Rf, I11, L12) (fun v τ => ∃ (I15 : Nat → Nat → Int32) (L16 : Nat → Nat → Int64), v = none ∧ τ = (n, sh, Rf, I15, L16) ∧ Ev (qGG D cA b E) mLand_readPan 3 (0, 0) 122 [(0, .ref o), (1, .ref x1), (2, .int x2), (3, .int 0)] [] (n, sh, Rf, I15, L16) post)))) ∧ (¬ 12 ≤ x3 → Ev (qGG D cA b E) mTape_takeNumber 1 (0, 0) 0 (lv_args 0 [.ref x1, .int 0, .int 999]) [] (n, sh, Rf, I, L) (fun v τ => ∃ (r18 : Int32) (I19 : Nat → Nat → Int32) (L20 : Nat → Nat → Int64), v = some (.int r18) ∧ τ = (n, sh, Rf, I19, L20) ∧ vp_in (((I o 2) * 12) + x3) 36 ∧ ∀ I21 : Nat → Nat → Int32, q_u I19 (o + 7) ((((I o 2) * 12) + x3) : Int32).toNatClampNeg r18 = I21 → vp_in (((I21 o 2) * 12) + x3) 36 ∧ Ev (qGG D cA b E) mLand_readPan 3 (0, 0) 37 [(0, .ref o), (1, .ref x1), (2, .int ((x2 + (I21 (o + 7) ((((I21 o 2) * 12) + x3) : Int32).toNatClampNeg)))), (3, .int ((x3 + Int32.ofInt 1)))] [] (n, sh, Rf, I21, L20) post)))
set_option maxHeartbeats 4000000 in
set_option maxRecDepth 20000 in
theorem sLand_readPan_37 {D : va_G} {cA : FieldType → ClassId} {b : Nat} {E : State → Prop} (o : Nat) (n : Nat) (sh : Nat → qC) (Rf : Nat → Nat → Option Nat) (I : Nat → Nat → Int32) (L : Nat → Nat → Int64) (post : Option Value → qS → Prop) (x1 : Nat) (x2 : Int32) (x3 : Int32) (hok : q_ok (qGG D cA b E)) (hw : WfLand (qGG D cA b E) n sh Rf o) (hw1 : WfTape (qGG D cA b E) n sh Rf x1) (H : fLand_readPan_37 D cA b E o n sh Rf I L post x1 x2 x3) : Ev (qGG D cA b E) mLand_readPan 3 (0, 0) 37 [(0, .ref o), (1, .ref x1), (2, .int x2), (3, .int x3)] [] (n, sh, Rf, I, L) post := by
  unfold fLand_readPan_37 at H
  refine ev_iload_n dLand_readPan_37 rfl ?_
  refine ev_bipush (12) dLand_readPan_38 (by decide) ?_
  refine ev_icmp_ge 88 dLand_readPan_40 (by decide) (fun c1 => ?_) (fun c1 => ?_)
  · have H := H.1 c1
    refine ev_aload_n dLand_readPan_88 rfl ?_
    refine ev_getR hok fk_Land_53 (woLand hw) (fun _ _ _ => rfl) (wrLand_13 hw) dLand_readPan_89 ?_
    refine ev_aload_n dLand_readPan_92 rfl ?_
    refine ev_getI hok fk_Land_18 (woLand hw) (fun _ _ _ => rfl) dLand_readPan_93 ?_
    refine ev_iconst (1) dLand_readPan_96 (by decide) ?_
    refine ev_iload_n dLand_readPan_97 rfl ?_
    refine ev_bipush (12) dLand_readPan_98 (by decide) ?_
    refine ev_idiv dLand_readPan_100 (by decide) ?_
    refine ev_mmax (by decide) (q_t4 177 (by decide +kernel) rfl) (q_t4 41 (by decide +kernel) rfl) (q_t1 19 (by decide +kernel) rfl) (q_t4 42 rfl rfl) (Nat.le_of_ble_eq_true rfl) dLand_readPan_101 ?_
    generalize ey2 : ((if 1 < (x2 / 12) then (x2 / 12) else 1) : Int32) = y2
    have H := H y2 ey2
    obtain ⟨h4, H⟩ := H
    refine ev_iast hok (waLand_13 hw) h4 dLand_readPan_104 ?_
    generalize eI3 : q_u I (o + 9) ((I o 2) : Int32).toNatClampNeg y2 = I3
    have H := H I3 eI3
    refine ev_aload_n dLand_readPan_105 rfl ?_
    refine ev_aload_n dLand_readPan_106 rfl ?_
    refine ev_bipush (7) dLand_readPan_107 (by decide) ?_
    refine ev_callV [.int 7] [.ref x1] (B' := (0, 0)) (B'' := (0, 0)) hok mmTape_isWord mk_Land_100 (ci := 8) rfl rfl (woTape hw1) rfl (Nat.le_of_ble_eq_true rfl) rfl (Nat.le_of_ble_eq_true rfl) dLand_readPan_109 rfl (by decide) H (fun v τ p5 => ?_)
    obtain ⟨r6, I7, L8, rfl, rfl, H⟩ := p5
    refine ev_callV [.int r6] [] (B' := (0, 0)) (B'' := (0, 0)) hok mmTape_passIf mk_Land_150 (ci := 8) rfl rfl (woTape hw1) rfl (Nat.le_of_ble_eq_true rfl) rfl (Nat.le_of_ble_eq_true rfl) dLand_readPan_112 rfl (by decide) H (fun v τ p9 => ?_)
    obtain ⟨I11, L12, rfl, rfl, H⟩ := p9
    refine ev_aload_n dLand_readPan_115 rfl ?_
    refine ev_aload_n dLand_readPan_116 rfl ?_
    refine ev_callV [.ref x1] [] (B' := (0, 0)) (B'' := (0, 0)) hok mmLand_readDistrict mk_Land_158 (ci := 1) rfl rfl (woLand hw) rfl (Nat.le_of_ble_eq_true rfl) rfl (Nat.le_of_ble_eq_true rfl) dLand_readPan_117 rfl (by decide) H (fun v τ p13 => ?_)
    obtain ⟨I15, L16, rfl, rfl, H⟩ := p13
    refine ev_iconst (0) dLand_readPan_120 (by decide) ?_
    refine ev_istore_n dLand_readPan_121 (by decide) ?_
    exact ev_sub [(0, .ref o), (1, .ref x1), (2, .int x2), (3, .int 0)] rfl H
  · have H := H.2 c1
    refine ev_aload_n dLand_readPan_43 rfl ?_
    refine ev_getR hok fk_Land_47 (woLand hw) (fun _ _ _ => rfl) (wrLand_11 hw) dLand_readPan_44 ?_
    refine ev_aload_n dLand_readPan_47 rfl ?_
    refine ev_getI hok fk_Land_18 (woLand hw) (fun _ _ _ => rfl) dLand_readPan_48 ?_
    refine ev_bipush (12) dLand_readPan_51 (by decide) ?_
    refine ev_imul dLand_readPan_53 ?_
    refine ev_iload_n dLand_readPan_54 rfl ?_
    refine ev_iadd dLand_readPan_55 ?_
    refine ev_aload_n dLand_readPan_56 rfl ?_
    refine ev_iconst (0) dLand_readPan_57 (by decide) ?_
    refine ev_sipush (999) dLand_readPan_58 (by decide) ?_
    refine ev_callV [.int 0, .int 999] [.int ((((I o 2) * 12) + x3)), .ref ((o + 7))] (B' := (0, 0)) (B'' := (0, 0)) hok mmTape_takeNumber mk_Land_127 (ci := 8) rfl rfl (woTape hw1) rfl (Nat.le_of_ble_eq_true rfl) rfl (Nat.le_of_ble_eq_true rfl) dLand_readPan_61 rfl (by decide) H (fun v τ p17 => ?_)
    obtain ⟨r18, I19, L20, rfl, rfl, H⟩ := p17
    obtain ⟨h22, H⟩ := H
    refine ev_iast hok (waLand_11 hw) h22 dLand_readPan_64 ?_
    generalize eI21 : q_u I19 (o + 7) ((((I o 2) * 12) + x3) : Int32).toNatClampNeg r18 = I21
    have H := H I21 eI21
    refine ev_iload_n dLand_readPan_65 rfl ?_
    refine ev_aload_n dLand_readPan_66 rfl ?_
    refine ev_getR hok fk_Land_47 (woLand hw) (fun _ _ _ => rfl) (wrLand_11 hw) dLand_readPan_67 ?_
    refine ev_aload_n dLand_readPan_70 rfl ?_
    refine ev_getI hok fk_Land_18 (woLand hw) (fun _ _ _ => rfl) dLand_readPan_71 ?_
    refine ev_bipush (12) dLand_readPan_74 (by decide) ?_
    refine ev_imul dLand_readPan_76 ?_
    refine ev_iload_n dLand_readPan_77 rfl ?_
    refine ev_iadd dLand_readPan_78 ?_
    obtain ⟨h23, H⟩ := H
    refine ev_iald hok (waLand_11 hw) h23 dLand_readPan_79 ?_
    refine ev_iadd dLand_readPan_80 ?_
    refine ev_istore_n dLand_readPan_81 (by decide) ?_
    refine ev_iinc dLand_readPan_82 rfl (by decide) ?_
    refine ev_goto 37 dLand_readPan_85 (by decide) ?_
    exact ev_sub [(0, .ref o), (1, .ref x1), (2, .int ((x2 + (I21 (o + 7) ((((I21 o 2) * 12) + x3) : Int32).toNatClampNeg)))), (3, .int ((x3 + Int32.ofInt 1)))] rfl H
def fLand_readPan_0 (D : va_G) (cA : FieldType → ClassId) (b : Nat) (E : State → Prop) (o : Nat) (n : Nat) (sh : Nat → qC) (Rf : Nat → Nat → Option Nat) (I : Nat → Nat → Int32) (L : Nat → Nat → Int64) (post : Option Value → qS → Prop) (x1 : Nat) : Prop :=
  Ev (qGG D cA b E) mTape_step 0 (0, 0) 0 (lv_args 0 [.ref x1]) [] (n, sh, Rf, I, L) (fun v τ => ∃ (I3 : Nat → Nat → Int32) (L4 : Nat → Nat → Int64), v = none ∧ τ = (n, sh, Rf, I3, L4) ∧ Ev (qGG D cA b E) mLand_readName 1 (0, 0) 0 (lv_args 0 [.ref o, .ref x1]) [] (n, sh, Rf, I3, L4) (fun v τ => ∃ (I7 : Nat → Nat → Int32) (L8 : Nat → Nat → Int64), v = none ∧ τ = (n, sh, Rf, I7, L8) ∧ Ev (qGG D cA b E) mLand_readSite 2 (0, 0) 0 (lv_args 0 [.ref o, .ref x1]) [] (n, sh, Rf, I7, L8) (fun v τ => ∃ (r10 : Int32) (I11 : Nat → Nat → Int32) (L12 : Nat → Nat → Int64), v = some (.int r10) ∧ τ = (n, sh, Rf, I11, L12) ∧ vp_in (I7 o 2) 3 ∧ ∀ I13 : Nat → Nat → Int32, q_u I11 (o + 6) ((I7 o 2) : Int32).toNatClampNeg r10 = I13 → Ev (qGG D cA b E) mTape_isWord 0 (0, 0) 0 (lv_args 0 [.ref x1, .int 6]) [] (n, sh, Rf, I13, L12) (fun v τ => ∃ (r16 : Int32) (I17 : Nat → Nat → Int32) (L18 : Nat → Nat → Int64), v = some (.int r16) ∧ τ = (n, sh, Rf, I17, L18) ∧ Ev (qGG D cA b E) mTape_passIf 1 (0, 0) 0 (lv_args 0 [.ref x1, .int r16]) [] (n, sh, Rf, I17, L18) (fun v τ => ∃ (I21 : Nat → Nat → Int32) (L22 : Nat → Nat → Int64), v = none ∧ τ = (n, sh, Rf, I21, L22) ∧ Ev (qGG D cA b E) mLand_readPan 3 (0, 0) 37 [(0, .ref o), (1, .ref x1), (2, .int 0), (3, .int 0)] [] (n, sh, Rf, I21, L22) post)))))
set_option maxHeartbeats 4000000 in
set_option maxRecDepth 20000 in
theorem sLand_readPan_0 {D : va_G} {cA : FieldType → ClassId} {b : Nat} {E : State → Prop} (o : Nat) (n : Nat) (sh : Nat → qC) (Rf : Nat → Nat → Option Nat) (I : Nat → Nat → Int32) (L : Nat → Nat → Int64) (post : Option Value → qS → Prop) (x1 : Nat) (hok : q_ok (qGG D cA b E)) (hw : WfLand (qGG D cA b E) n sh Rf o) (hw1 : WfTape (qGG D cA b E) n sh Rf x1) (H : fLand_readPan_0 D cA b E o n sh Rf I L post x1) : Ev (qGG D cA b E) mLand_readPan 3 (0, 0) 0 [(0, .ref o), (1, .ref x1)] [] (n, sh, Rf, I, L) post := by
  unfold fLand_readPan_0 at H
  refine ev_aload_n dLand_readPan_0 rfl ?_
  refine ev_callV [] [] (B' := (0, 0)) (B'' := (0, 0)) hok mmTape_step mk_Land_120 (ci := 8) rfl rfl (woTape hw1) rfl (Nat.le_of_ble_eq_true rfl) rfl (Nat.le_of_ble_eq_true rfl) dLand_readPan_1 rfl (by decide) H (fun v τ p1 => ?_)
  obtain ⟨I3, L4, rfl, rfl, H⟩ := p1
  refine ev_aload_n dLand_readPan_4 rfl ?_
  refine ev_aload_n dLand_readPan_5 rfl ?_
  refine ev_callV [.ref x1] [] (B' := (0, 0)) (B'' := (0, 0)) hok mmLand_readName mk_Land_138 (ci := 1) rfl rfl (woLand hw) rfl (Nat.le_of_ble_eq_true rfl) rfl (Nat.le_of_ble_eq_true rfl) dLand_readPan_6 rfl (by decide) H (fun v τ p5 => ?_)
  obtain ⟨I7, L8, rfl, rfl, H⟩ := p5
  refine ev_aload_n dLand_readPan_9 rfl ?_
  refine ev_getR hok fk_Land_44 (woLand hw) (fun _ _ _ => rfl) (wrLand_10 hw) dLand_readPan_10 ?_
  refine ev_aload_n dLand_readPan_13 rfl ?_
  refine ev_getI hok fk_Land_18 (woLand hw) (fun _ _ _ => rfl) dLand_readPan_14 ?_
  refine ev_aload_n dLand_readPan_17 rfl ?_
  refine ev_aload_n dLand_readPan_18 rfl ?_
  refine ev_callV [.ref x1] [.int ((I7 o 2)), .ref ((o + 6))] (B' := (0, 0)) (B'' := (0, 0)) hok mmLand_readSite mk_Land_142 (ci := 1) rfl rfl (woLand hw) rfl (Nat.le_of_ble_eq_true rfl) rfl (Nat.le_of_ble_eq_true rfl) dLand_readPan_19 rfl (by decide) H (fun v τ p9 => ?_)
  obtain ⟨r10, I11, L12, rfl, rfl, H⟩ := p9
  obtain ⟨h14, H⟩ := H
  refine ev_iast hok (waLand_10 hw) h14 dLand_readPan_22 ?_
  generalize eI13 : q_u I11 (o + 6) ((I7 o 2) : Int32).toNatClampNeg r10 = I13
  have H := H I13 eI13
  refine ev_aload_n dLand_readPan_23 rfl ?_
  refine ev_aload_n dLand_readPan_24 rfl ?_
  refine ev_bipush (6) dLand_readPan_25 (by decide) ?_
  refine ev_callV [.int 6] [.ref x1] (B' := (0, 0)) (B'' := (0, 0)) hok mmTape_isWord mk_Land_100 (ci := 8) rfl rfl (woTape hw1) rfl (Nat.le_of_ble_eq_true rfl) rfl (Nat.le_of_ble_eq_true rfl) dLand_readPan_27 rfl (by decide) H (fun v τ p15 => ?_)
  obtain ⟨r16, I17, L18, rfl, rfl, H⟩ := p15
  refine ev_callV [.int r16] [] (B' := (0, 0)) (B'' := (0, 0)) hok mmTape_passIf mk_Land_150 (ci := 8) rfl rfl (woTape hw1) rfl (Nat.le_of_ble_eq_true rfl) rfl (Nat.le_of_ble_eq_true rfl) dLand_readPan_30 rfl (by decide) H (fun v τ p19 => ?_)
  obtain ⟨I21, L22, rfl, rfl, H⟩ := p19
  refine ev_iconst (0) dLand_readPan_33 (by decide) ?_
  refine ev_istore_n dLand_readPan_34 (by decide) ?_
  refine ev_iconst (0) dLand_readPan_35 (by decide) ?_
  refine ev_istore_n dLand_readPan_36 (by decide) ?_
  exact ev_sub [(0, .ref o), (1, .ref x1), (2, .int 0), (3, .int 0)] rfl H
def fLand_readRoad_0 (D : va_G) (cA : FieldType → ClassId) (b : Nat) (E : State → Prop) (o : Nat) (n : Nat) (sh : Nat → qC) (Rf : Nat → Nat → Option Nat) (I : Nat → Nat → Int32) (L : Nat → Nat → Int64) (post : Option Value → qS → Prop) (x1 : Nat) : Prop :=
  Ev (qGG D cA b E) mTape_step 0 (0, 0) 0 (lv_args 0 [.ref x1]) [] (n, sh, Rf, I, L) (fun v τ => ∃ (I3 : Nat → Nat → Int32) (L4 : Nat → Nat → Int64), v = none ∧ τ = (n, sh, Rf, I3, L4) ∧ Ev (qGG D cA b E) mTape_takePlaceUnlike 1 (0, 0) 0 (lv_args 0 [.ref x1, .int ((-1))]) [] (n, sh, Rf, I3, L4) (fun v τ => ∃ (r6 : Int32) (I7 : Nat → Nat → Int32) (L8 : Nat → Nat → Int64), v = some (.int r6) ∧ τ = (n, sh, Rf, I7, L8) ∧ Ev (qGG D cA b E) mTape_takePlaceUnlike 1 (0, 0) 0 (lv_args 0 [.ref x1, .int r6]) [] (n, sh, Rf, I7, L8) (fun v τ => ∃ (r10 : Int32) (I11 : Nat → Nat → Int32) (L12 : Nat → Nat → Int64), v = some (.int r10) ∧ τ = (n, sh, Rf, I11, L12) ∧ Ev (qGG D cA b E) mTape_takeNumber 1 (0, 0) 0 (lv_args 0 [.ref x1, .int 1, .int 90]) [] (n, sh, Rf, I11, L12) (fun v τ => ∃ (r14 : Int32) (I15 : Nat → Nat → Int32) (L16 : Nat → Nat → Int64), v = some (.int r14) ∧ τ = (n, sh, Rf, I15, L16) ∧ Ev (qGG D cA b E) mTape_closeLine 2 (0, 0) 0 (lv_args 0 [.ref x1]) [] (n, sh, Rf, I15, L16) (fun v τ => ∃ (r18 : Int32) (I19 : Nat → Nat → Int32) (L20 : Nat → Nat → Int64), v = some (.int r18) ∧ τ = (n, sh, Rf, I19, L20) ∧ ((¬ r18 = 0 → Ev (qGG D cA b E) mLand_shorten 1 (0, 0) 0 (lv_args 0 [.ref o, .int r6, .int r10, .int r14]) [] (n, sh, Rf, I19, L20) (fun v τ => ∃ (I24 : Nat → Nat → Int32) (L25 : Nat → Nat → Int64), v = none ∧ τ = (n, sh, Rf, I24, L25) ∧ Ev (qGG D cA b E) mLand_shorten 1 (0, 0) 0 (lv_args 0 [.ref o, .int r10, .int r6, .int r14]) [] (n, sh, Rf, I24, L25) (fun v τ => ∃ (I28 : Nat → Nat → Int32) (L29 : Nat → Nat → Int64), v = none ∧ τ = (n, sh, Rf, I28, L29) ∧ ∀ I30 : Nat → Nat → Int32, q_u I28 o 0 ((I28 o 0) + 1) = I30 → post (some (.int 1)) (n, sh, Rf, I30, L29)))) ∧ (r18 = 0 → post (some (.int 0)) (n, sh, Rf, I19, L20))))))))
set_option maxHeartbeats 4000000 in
set_option maxRecDepth 20000 in
theorem sLand_readRoad_0 {D : va_G} {cA : FieldType → ClassId} {b : Nat} {E : State → Prop} (o : Nat) (n : Nat) (sh : Nat → qC) (Rf : Nat → Nat → Option Nat) (I : Nat → Nat → Int32) (L : Nat → Nat → Int64) (post : Option Value → qS → Prop) (x1 : Nat) (hok : q_ok (qGG D cA b E)) (hw : WfLand (qGG D cA b E) n sh Rf o) (hw1 : WfTape (qGG D cA b E) n sh Rf x1) (H : fLand_readRoad_0 D cA b E o n sh Rf I L post x1) : Ev (qGG D cA b E) mLand_readRoad 3 (0, 0) 0 [(0, .ref o), (1, .ref x1)] [] (n, sh, Rf, I, L) post := by
  unfold fLand_readRoad_0 at H
  refine ev_aload_n dLand_readRoad_0 rfl ?_
  refine ev_callV [] [] (B' := (0, 0)) (B'' := (0, 0)) hok mmTape_step mk_Land_120 (ci := 8) rfl rfl (woTape hw1) rfl (Nat.le_of_ble_eq_true rfl) rfl (Nat.le_of_ble_eq_true rfl) dLand_readRoad_1 rfl (by decide) H (fun v τ p1 => ?_)
  obtain ⟨I3, L4, rfl, rfl, H⟩ := p1
  refine ev_aload_n dLand_readRoad_4 rfl ?_
  refine ev_iconst (-1) dLand_readRoad_5 (by decide) ?_
  refine ev_callV [.int ((-1))] [] (B' := (0, 0)) (B'' := (0, 0)) hok mmTape_takePlaceUnlike mk_Land_123 (ci := 8) rfl rfl (woTape hw1) rfl (Nat.le_of_ble_eq_true rfl) rfl (Nat.le_of_ble_eq_true rfl) dLand_readRoad_6 rfl (by decide) H (fun v τ p5 => ?_)
  obtain ⟨r6, I7, L8, rfl, rfl, H⟩ := p5
  refine ev_istore_n dLand_readRoad_9 (by decide) ?_
  refine ev_aload_n dLand_readRoad_10 rfl ?_
  refine ev_iload_n dLand_readRoad_11 rfl ?_
  refine ev_callV [.int r6] [] (B' := (0, 0)) (B'' := (0, 0)) hok mmTape_takePlaceUnlike mk_Land_123 (ci := 8) rfl rfl (woTape hw1) rfl (Nat.le_of_ble_eq_true rfl) rfl (Nat.le_of_ble_eq_true rfl) dLand_readRoad_12 rfl (by decide) H (fun v τ p9 => ?_)
  obtain ⟨r10, I11, L12, rfl, rfl, H⟩ := p9
  refine ev_istore_n dLand_readRoad_15 (by decide) ?_
  refine ev_aload_n dLand_readRoad_16 rfl ?_
  refine ev_iconst (1) dLand_readRoad_17 (by decide) ?_
  refine ev_bipush (90) dLand_readRoad_18 (by decide) ?_
  refine ev_callV [.int 1, .int 90] [] (B' := (0, 0)) (B'' := (0, 0)) hok mmTape_takeNumber mk_Land_127 (ci := 8) rfl rfl (woTape hw1) rfl (Nat.le_of_ble_eq_true rfl) rfl (Nat.le_of_ble_eq_true rfl) dLand_readRoad_20 rfl (by decide) H (fun v τ p13 => ?_)
  obtain ⟨r14, I15, L16, rfl, rfl, H⟩ := p13
  refine ev_istore dLand_readRoad_23 (by decide) ?_
  refine ev_aload_n dLand_readRoad_25 rfl ?_
  refine ev_callV [] [] (B' := (0, 0)) (B'' := (0, 0)) hok mmTape_closeLine mk_Land_131 (ci := 8) rfl rfl (woTape hw1) rfl (Nat.le_of_ble_eq_true rfl) rfl (Nat.le_of_ble_eq_true rfl) dLand_readRoad_26 rfl (by decide) H (fun v τ p17 => ?_)
  obtain ⟨r18, I19, L20, rfl, rfl, H⟩ := p17
  refine ev_if_ne 34 dLand_readRoad_29 (by decide) (fun c21 => ?_) (fun c21 => ?_)
  · have H := H.1 c21
    refine ev_aload_n dLand_readRoad_34 rfl ?_
    refine ev_iload_n dLand_readRoad_35 rfl ?_
    refine ev_iload_n dLand_readRoad_36 rfl ?_
    refine ev_iload dLand_readRoad_37 rfl ?_
    refine ev_callV [.int r6, .int r10, .int r14] [] (B' := (0, 0)) (B'' := (0, 0)) hok mmLand_shorten mk_Land_134 (ci := 1) rfl rfl (woLand hw) rfl (Nat.le_of_ble_eq_true rfl) rfl (Nat.le_of_ble_eq_true rfl) dLand_readRoad_39 rfl (by decide) H (fun v τ p22 => ?_)
    obtain ⟨I24, L25, rfl, rfl, H⟩ := p22
    refine ev_aload_n dLand_readRoad_42 rfl ?_
    refine ev_iload_n dLand_readRoad_43 rfl ?_
    refine ev_iload_n dLand_readRoad_44 rfl ?_
    refine ev_iload dLand_readRoad_45 rfl ?_
    refine ev_callV [.int r10, .int r6, .int r14] [] (B' := (0, 0)) (B'' := (0, 0)) hok mmLand_shorten mk_Land_134 (ci := 1) rfl rfl (woLand hw) rfl (Nat.le_of_ble_eq_true rfl) rfl (Nat.le_of_ble_eq_true rfl) dLand_readRoad_47 rfl (by decide) H (fun v τ p26 => ?_)
    obtain ⟨I28, L29, rfl, rfl, H⟩ := p26
    refine ev_aload_n dLand_readRoad_50 rfl ?_
    refine ev_dup dLand_readRoad_51 rfl ?_
    refine ev_getI hok fk_Land_9 (woLand hw) (fun _ _ _ => rfl) dLand_readRoad_52 ?_
    refine ev_iconst (1) dLand_readRoad_55 (by decide) ?_
    refine ev_iadd dLand_readRoad_56 ?_
    refine ev_putI hok fk_Land_9 (woLand hw) (fun _ _ _ => rfl) rfl rfl dLand_readRoad_57 ?_
    generalize eI30 : q_u I28 o 0 ((I28 o 0) + 1) = I30
    have H := H I30 eI30
    refine ev_iconst (1) dLand_readRoad_60 (by decide) ?_
    exact ev_zret rfl (by decide) dLand_readRoad_61 H
  · have H := H.2 c21
    refine ev_iconst (0) dLand_readRoad_32 (by decide) ?_
    exact ev_zret rfl (by decide) dLand_readRoad_33 H
def fLand_readTown_0 (D : va_G) (cA : FieldType → ClassId) (b : Nat) (E : State → Prop) (o : Nat) (n : Nat) (sh : Nat → qC) (Rf : Nat → Nat → Option Nat) (I : Nat → Nat → Int32) (L : Nat → Nat → Int64) (post : Option Value → qS → Prop) (x1 : Nat) : Prop :=
  Ev (qGG D cA b E) mTape_step 0 (0, 0) 0 (lv_args 0 [.ref x1]) [] (n, sh, Rf, I, L) (fun v τ => ∃ (I3 : Nat → Nat → Int32) (L4 : Nat → Nat → Int64), v = none ∧ τ = (n, sh, Rf, I3, L4) ∧ Ev (qGG D cA b E) mLand_readName 1 (0, 0) 0 (lv_args 0 [.ref o, .ref x1]) [] (n, sh, Rf, I3, L4) (fun v τ => ∃ (I7 : Nat → Nat → Int32) (L8 : Nat → Nat → Int64), v = none ∧ τ = (n, sh, Rf, I7, L8) ∧ Ev (qGG D cA b E) mLand_readSite 2 (0, 0) 0 (lv_args 0 [.ref o, .ref x1]) [] (n, sh, Rf, I7, L8) (fun v τ => ∃ (r10 : Int32) (I11 : Nat → Nat → Int32) (L12 : Nat → Nat → Int64), v = some (.int r10) ∧ τ = (n, sh, Rf, I11, L12) ∧ vp_in (I7 o 3) 5 ∧ ∀ I13 : Nat → Nat → Int32, q_u I11 (o + 10) ((I7 o 3) : Int32).toNatClampNeg r10 = I13 → Ev (qGG D cA b E) mTape_takeNumberBehind 2 (0, 0) 0 (lv_args 0 [.ref x1, .int 9, .int 0, .int 4]) [] (n, sh, Rf, I13, L12) (fun v τ => ∃ (r16 : Int32) (I17 : Nat → Nat → Int32) (L18 : Nat → Nat → Int64), v = some (.int r16) ∧ τ = (n, sh, Rf, I17, L18) ∧ vp_in (I13 o 3) 5 ∧ ∀ I19 : Nat → Nat → Int32, q_u I17 (o + 11) ((I13 o 3) : Int32).toNatClampNeg r16 = I19 → Ev (qGG D cA b E) mTape_takeNumberBehind 2 (0, 0) 0 (lv_args 0 [.ref x1, .int 10, .int 0, .int 999]) [] (n, sh, Rf, I19, L18) (fun v τ => ∃ (r22 : Int32) (I23 : Nat → Nat → Int32) (L24 : Nat → Nat → Int64), v = some (.int r22) ∧ τ = (n, sh, Rf, I23, L24) ∧ vp_in (I19 o 3) 5 ∧ ∀ I25 : Nat → Nat → Int32, q_u I23 (o + 12) ((I19 o 3) : Int32).toNatClampNeg r22 = I25 → Ev (qGG D cA b E) mTape_takeNumberBehind 2 (0, 0) 0 (lv_args 0 [.ref x1, .int 11, .int 1, .int 999]) [] (n, sh, Rf, I25, L24) (fun v τ => ∃ (r28 : Int32) (I29 : Nat → Nat → Int32) (L30 : Nat → Nat → Int64), v = some (.int r28) ∧ τ = (n, sh, Rf, I29, L30) ∧ vp_in (I25 o 3) 5 ∧ ∀ I31 : Nat → Nat → Int32, q_u I29 (o + 13) ((I25 o 3) : Int32).toNatClampNeg r28 = I31 → Ev (qGG D cA b E) mTape_takeNumberBehind 2 (0, 0) 0 (lv_args 0 [.ref x1, .int 12, .int 0, .int 999]) [] (n, sh, Rf, I31, L30) (fun v τ => ∃ (r34 : Int32) (I35 : Nat → Nat → Int32) (L36 : Nat → Nat → Int64), v = some (.int r34) ∧ τ = (n, sh, Rf, I35, L36) ∧ vp_in (I31 o 3) 5 ∧ ∀ I37 : Nat → Nat → Int32, q_u I35 (o + 14) ((I31 o 3) : Int32).toNatClampNeg r34 = I37 → Ev (qGG D cA b E) mTape_takeNumberBehind 2 (0, 0) 0 (lv_args 0 [.ref x1, .int 13, .int 1, .int 99]) [] (n, sh, Rf, I37, L36) (fun v τ => ∃ (r40 : Int32) (I41 : Nat → Nat → Int32) (L42 : Nat → Nat → Int64), v = some (.int r40) ∧ τ = (n, sh, Rf, I41, L42) ∧ vp_in (I37 o 3) 5 ∧ ∀ I43 : Nat → Nat → Int32, q_u I41 (o + 15) ((I37 o 3) : Int32).toNatClampNeg r40 = I43 → Ev (qGG D cA b E) mTape_closeLine 2 (0, 0) 0 (lv_args 0 [.ref x1]) [] (n, sh, Rf, I43, L42) (fun v τ => ∃ (r46 : Int32) (I47 : Nat → Nat → Int32) (L48 : Nat → Nat → Int64), v = some (.int r46) ∧ τ = (n, sh, Rf, I47, L48) ∧ ((¬ r46 = 0 → ∀ I50 : Nat → Nat → Int32, q_u I47 o 3 ((I47 o 3) + 1) = I50 → post (some (.int 1)) (n, sh, Rf, I50, L48)) ∧ (r46 = 0 → post (some (.int 0)) (n, sh, Rf, I47, L48))))))))))))
set_option maxHeartbeats 4000000 in
set_option maxRecDepth 20000 in
theorem sLand_readTown_0 {D : va_G} {cA : FieldType → ClassId} {b : Nat} {E : State → Prop} (o : Nat) (n : Nat) (sh : Nat → qC) (Rf : Nat → Nat → Option Nat) (I : Nat → Nat → Int32) (L : Nat → Nat → Int64) (post : Option Value → qS → Prop) (x1 : Nat) (hok : q_ok (qGG D cA b E)) (hw : WfLand (qGG D cA b E) n sh Rf o) (hw1 : WfTape (qGG D cA b E) n sh Rf x1) (H : fLand_readTown_0 D cA b E o n sh Rf I L post x1) : Ev (qGG D cA b E) mLand_readTown 3 (0, 0) 0 [(0, .ref o), (1, .ref x1)] [] (n, sh, Rf, I, L) post := by
  unfold fLand_readTown_0 at H
  refine ev_aload_n dLand_readTown_0 rfl ?_
  refine ev_callV [] [] (B' := (0, 0)) (B'' := (0, 0)) hok mmTape_step mk_Land_120 (ci := 8) rfl rfl (woTape hw1) rfl (Nat.le_of_ble_eq_true rfl) rfl (Nat.le_of_ble_eq_true rfl) dLand_readTown_1 rfl (by decide) H (fun v τ p1 => ?_)
  obtain ⟨I3, L4, rfl, rfl, H⟩ := p1
  refine ev_aload_n dLand_readTown_4 rfl ?_
  refine ev_aload_n dLand_readTown_5 rfl ?_
  refine ev_callV [.ref x1] [] (B' := (0, 0)) (B'' := (0, 0)) hok mmLand_readName mk_Land_138 (ci := 1) rfl rfl (woLand hw) rfl (Nat.le_of_ble_eq_true rfl) rfl (Nat.le_of_ble_eq_true rfl) dLand_readTown_6 rfl (by decide) H (fun v τ p5 => ?_)
  obtain ⟨I7, L8, rfl, rfl, H⟩ := p5
  refine ev_aload_n dLand_readTown_9 rfl ?_
  refine ev_getR hok fk_Land_56 (woLand hw) (fun _ _ _ => rfl) (wrLand_14 hw) dLand_readTown_10 ?_
  refine ev_aload_n dLand_readTown_13 rfl ?_
  refine ev_getI hok fk_Land_21 (woLand hw) (fun _ _ _ => rfl) dLand_readTown_14 ?_
  refine ev_aload_n dLand_readTown_17 rfl ?_
  refine ev_aload_n dLand_readTown_18 rfl ?_
  refine ev_callV [.ref x1] [.int ((I7 o 3)), .ref ((o + 10))] (B' := (0, 0)) (B'' := (0, 0)) hok mmLand_readSite mk_Land_142 (ci := 1) rfl rfl (woLand hw) rfl (Nat.le_of_ble_eq_true rfl) rfl (Nat.le_of_ble_eq_true rfl) dLand_readTown_19 rfl (by decide) H (fun v τ p9 => ?_)
  obtain ⟨r10, I11, L12, rfl, rfl, H⟩ := p9
  obtain ⟨h14, H⟩ := H
  refine ev_iast hok (waLand_14 hw) h14 dLand_readTown_22 ?_
  generalize eI13 : q_u I11 (o + 10) ((I7 o 3) : Int32).toNatClampNeg r10 = I13
  have H := H I13 eI13
  refine ev_aload_n dLand_readTown_23 rfl ?_
  refine ev_getR hok fk_Land_59 (woLand hw) (fun _ _ _ => rfl) (wrLand_15 hw) dLand_readTown_24 ?_
  refine ev_aload_n dLand_readTown_27 rfl ?_
  refine ev_getI hok fk_Land_21 (woLand hw) (fun _ _ _ => rfl) dLand_readTown_28 ?_
  refine ev_aload_n dLand_readTown_31 rfl ?_
  refine ev_bipush (9) dLand_readTown_32 (by decide) ?_
  refine ev_iconst (0) dLand_readTown_34 (by decide) ?_
  refine ev_iconst (4) dLand_readTown_35 (by decide) ?_
  refine ev_callV [.int 9, .int 0, .int 4] [.int ((I13 o 3)), .ref ((o + 11))] (B' := (0, 0)) (B'' := (0, 0)) hok mmTape_takeNumberBehind mk_Land_146 (ci := 8) rfl rfl (woTape hw1) rfl (Nat.le_of_ble_eq_true rfl) rfl (Nat.le_of_ble_eq_true rfl) dLand_readTown_36 rfl (by decide) H (fun v τ p15 => ?_)
  obtain ⟨r16, I17, L18, rfl, rfl, H⟩ := p15
  obtain ⟨h20, H⟩ := H
  refine ev_iast hok (waLand_15 hw) h20 dLand_readTown_39 ?_
  generalize eI19 : q_u I17 (o + 11) ((I13 o 3) : Int32).toNatClampNeg r16 = I19
  have H := H I19 eI19
  refine ev_aload_n dLand_readTown_40 rfl ?_
  refine ev_getR hok fk_Land_62 (woLand hw) (fun _ _ _ => rfl) (wrLand_16 hw) dLand_readTown_41 ?_
  refine ev_aload_n dLand_readTown_44 rfl ?_
  refine ev_getI hok fk_Land_21 (woLand hw) (fun _ _ _ => rfl) dLand_readTown_45 ?_
  refine ev_aload_n dLand_readTown_48 rfl ?_
  refine ev_bipush (10) dLand_readTown_49 (by decide) ?_
  refine ev_iconst (0) dLand_readTown_51 (by decide) ?_
  refine ev_sipush (999) dLand_readTown_52 (by decide) ?_
  refine ev_callV [.int 10, .int 0, .int 999] [.int ((I19 o 3)), .ref ((o + 12))] (B' := (0, 0)) (B'' := (0, 0)) hok mmTape_takeNumberBehind mk_Land_146 (ci := 8) rfl rfl (woTape hw1) rfl (Nat.le_of_ble_eq_true rfl) rfl (Nat.le_of_ble_eq_true rfl) dLand_readTown_55 rfl (by decide) H (fun v τ p21 => ?_)
  obtain ⟨r22, I23, L24, rfl, rfl, H⟩ := p21
  obtain ⟨h26, H⟩ := H
  refine ev_iast hok (waLand_16 hw) h26 dLand_readTown_58 ?_
  generalize eI25 : q_u I23 (o + 12) ((I19 o 3) : Int32).toNatClampNeg r22 = I25
  have H := H I25 eI25
  refine ev_aload_n dLand_readTown_59 rfl ?_
  refine ev_getR hok fk_Land_65 (woLand hw) (fun _ _ _ => rfl) (wrLand_17 hw) dLand_readTown_60 ?_
  refine ev_aload_n dLand_readTown_63 rfl ?_
  refine ev_getI hok fk_Land_21 (woLand hw) (fun _ _ _ => rfl) dLand_readTown_64 ?_
  refine ev_aload_n dLand_readTown_67 rfl ?_
  refine ev_bipush (11) dLand_readTown_68 (by decide) ?_
  refine ev_iconst (1) dLand_readTown_70 (by decide) ?_
  refine ev_sipush (999) dLand_readTown_71 (by decide) ?_
  refine ev_callV [.int 11, .int 1, .int 999] [.int ((I25 o 3)), .ref ((o + 13))] (B' := (0, 0)) (B'' := (0, 0)) hok mmTape_takeNumberBehind mk_Land_146 (ci := 8) rfl rfl (woTape hw1) rfl (Nat.le_of_ble_eq_true rfl) rfl (Nat.le_of_ble_eq_true rfl) dLand_readTown_74 rfl (by decide) H (fun v τ p27 => ?_)
  obtain ⟨r28, I29, L30, rfl, rfl, H⟩ := p27
  obtain ⟨h32, H⟩ := H
  refine ev_iast hok (waLand_17 hw) h32 dLand_readTown_77 ?_
  generalize eI31 : q_u I29 (o + 13) ((I25 o 3) : Int32).toNatClampNeg r28 = I31
  have H := H I31 eI31
  refine ev_aload_n dLand_readTown_78 rfl ?_
  refine ev_getR hok fk_Land_68 (woLand hw) (fun _ _ _ => rfl) (wrLand_18 hw) dLand_readTown_79 ?_
  refine ev_aload_n dLand_readTown_82 rfl ?_
  refine ev_getI hok fk_Land_21 (woLand hw) (fun _ _ _ => rfl) dLand_readTown_83 ?_
  refine ev_aload_n dLand_readTown_86 rfl ?_
  refine ev_bipush (12) dLand_readTown_87 (by decide) ?_
  refine ev_iconst (0) dLand_readTown_89 (by decide) ?_
  refine ev_sipush (999) dLand_readTown_90 (by decide) ?_
  refine ev_callV [.int 12, .int 0, .int 999] [.int ((I31 o 3)), .ref ((o + 14))] (B' := (0, 0)) (B'' := (0, 0)) hok mmTape_takeNumberBehind mk_Land_146 (ci := 8) rfl rfl (woTape hw1) rfl (Nat.le_of_ble_eq_true rfl) rfl (Nat.le_of_ble_eq_true rfl) dLand_readTown_93 rfl (by decide) H (fun v τ p33 => ?_)
  obtain ⟨r34, I35, L36, rfl, rfl, H⟩ := p33
  obtain ⟨h38, H⟩ := H
  refine ev_iast hok (waLand_18 hw) h38 dLand_readTown_96 ?_
  generalize eI37 : q_u I35 (o + 14) ((I31 o 3) : Int32).toNatClampNeg r34 = I37
  have H := H I37 eI37
  refine ev_aload_n dLand_readTown_97 rfl ?_
  refine ev_getR hok fk_Land_71 (woLand hw) (fun _ _ _ => rfl) (wrLand_19 hw) dLand_readTown_98 ?_
  refine ev_aload_n dLand_readTown_101 rfl ?_
  refine ev_getI hok fk_Land_21 (woLand hw) (fun _ _ _ => rfl) dLand_readTown_102 ?_
  refine ev_aload_n dLand_readTown_105 rfl ?_
  refine ev_bipush (13) dLand_readTown_106 (by decide) ?_
  refine ev_iconst (1) dLand_readTown_108 (by decide) ?_
  refine ev_bipush (99) dLand_readTown_109 (by decide) ?_
  refine ev_callV [.int 13, .int 1, .int 99] [.int ((I37 o 3)), .ref ((o + 15))] (B' := (0, 0)) (B'' := (0, 0)) hok mmTape_takeNumberBehind mk_Land_146 (ci := 8) rfl rfl (woTape hw1) rfl (Nat.le_of_ble_eq_true rfl) rfl (Nat.le_of_ble_eq_true rfl) dLand_readTown_111 rfl (by decide) H (fun v τ p39 => ?_)
  obtain ⟨r40, I41, L42, rfl, rfl, H⟩ := p39
  obtain ⟨h44, H⟩ := H
  refine ev_iast hok (waLand_19 hw) h44 dLand_readTown_114 ?_
  generalize eI43 : q_u I41 (o + 15) ((I37 o 3) : Int32).toNatClampNeg r40 = I43
  have H := H I43 eI43
  refine ev_aload_n dLand_readTown_115 rfl ?_
  refine ev_callV [] [] (B' := (0, 0)) (B'' := (0, 0)) hok mmTape_closeLine mk_Land_131 (ci := 8) rfl rfl (woTape hw1) rfl (Nat.le_of_ble_eq_true rfl) rfl (Nat.le_of_ble_eq_true rfl) dLand_readTown_116 rfl (by decide) H (fun v τ p45 => ?_)
  obtain ⟨r46, I47, L48, rfl, rfl, H⟩ := p45
  refine ev_if_ne 124 dLand_readTown_119 (by decide) (fun c49 => ?_) (fun c49 => ?_)
  · have H := H.1 c49
    refine ev_aload_n dLand_readTown_124 rfl ?_
    refine ev_dup dLand_readTown_125 rfl ?_
    refine ev_getI hok fk_Land_21 (woLand hw) (fun _ _ _ => rfl) dLand_readTown_126 ?_
    refine ev_iconst (1) dLand_readTown_129 (by decide) ?_
    refine ev_iadd dLand_readTown_130 ?_
    refine ev_putI hok fk_Land_21 (woLand hw) (fun _ _ _ => rfl) rfl rfl dLand_readTown_131 ?_
    generalize eI50 : q_u I47 o 3 ((I47 o 3) + 1) = I50
    have H := H I50 eI50
    refine ev_iconst (1) dLand_readTown_134 (by decide) ?_
    exact ev_zret rfl (by decide) dLand_readTown_135 H
  · have H := H.2 c49
    refine ev_iconst (0) dLand_readTown_122 (by decide) ?_
    exact ev_zret rfl (by decide) dLand_readTown_123 H
def fRun_bringLoads_76 (D : va_G) (cA : FieldType → ClassId) (b : Nat) (E : State → Prop) (o : Nat) (n : Nat) (sh : Nat → qC) (Rf : Nat → Nat → Option Nat) (I : Nat → Nat → Int32) (L : Nat → Nat → Int64) (post : Option Value → qS → Prop) (x1 : Int32) : Prop :=
  Ev (qGG D cA b E) mRun_bringLoads 3 (0, 0) 8 [(0, .ref o), (1, .int ((x1 + Int32.ofInt 1)))] [] (n, sh, Rf, I, L) post
set_option maxHeartbeats 4000000 in
set_option maxRecDepth 20000 in
theorem sRun_bringLoads_76 {D : va_G} {cA : FieldType → ClassId} {b : Nat} {E : State → Prop} (o : Nat) (n : Nat) (sh : Nat → qC) (Rf : Nat → Nat → Option Nat) (I : Nat → Nat → Int32) (L : Nat → Nat → Int64) (post : Option Value → qS → Prop) (x1 : Int32) (hok : q_ok (qGG D cA b E)) (hw : WfRun (qGG D cA b E) n sh Rf o) (H : fRun_bringLoads_76 D cA b E o n sh Rf I L post x1) : Ev (qGG D cA b E) mRun_bringLoads 3 (0, 0) 76 [(0, .ref o), (1, .int x1)] [] (n, sh, Rf, I, L) post := by
  unfold fRun_bringLoads_76 at H
  refine ev_iinc dRun_bringLoads_76 rfl (by decide) ?_
  refine ev_goto 8 dRun_bringLoads_79 (by decide) ?_
  exact ev_sub [(0, .ref o), (1, .int ((x1 + Int32.ofInt 1)))] rfl H
def fRun_bringLoads_55 (D : va_G) (cA : FieldType → ClassId) (b : Nat) (E : State → Prop) (o : Nat) (n : Nat) (sh : Nat → qC) (Rf : Nat → Nat → Option Nat) (I : Nat → Nat → Int32) (L : Nat → Nat → Int64) (post : Option Value → qS → Prop) (x1 : Int32) : Prop :=
  vp_in x1 2880 ∧ ((¬ (I ((o + 44) + 4) (x1 : Int32).toNatClampNeg) = (I o 17) → fRun_bringLoads_76 D cA b E o n sh Rf I L post x1) ∧ ((I ((o + 44) + 4) (x1 : Int32).toNatClampNeg) = (I o 17) → Ev (qGG D cA b E) mRun_sellSalt 2 (0, 0) 0 (lv_args 0 [.ref o, .int x1]) [] (n, sh, Rf, I, L) (fun v τ => ∃ (I5 : Nat → Nat → Int32) (L6 : Nat → Nat → Int64), v = none ∧ τ = (n, sh, Rf, I5, L6) ∧ fRun_bringLoads_76 D cA b E o n sh Rf I5 L6 post x1)))
set_option maxHeartbeats 4000000 in
set_option maxRecDepth 20000 in
theorem sRun_bringLoads_55 {D : va_G} {cA : FieldType → ClassId} {b : Nat} {E : State → Prop} (o : Nat) (n : Nat) (sh : Nat → qC) (Rf : Nat → Nat → Option Nat) (I : Nat → Nat → Int32) (L : Nat → Nat → Int64) (post : Option Value → qS → Prop) (x1 : Int32) (hok : q_ok (qGG D cA b E)) (hw : WfRun (qGG D cA b E) n sh Rf o) (H : fRun_bringLoads_55 D cA b E o n sh Rf I L post x1) : Ev (qGG D cA b E) mRun_bringLoads 3 (0, 0) 55 [(0, .ref o), (1, .int x1)] [] (n, sh, Rf, I, L) post := by
  unfold fRun_bringLoads_55 at H
  refine ev_aload_n dRun_bringLoads_55 rfl ?_
  refine ev_getR hok fk_Run_49 (woRun hw) (fun _ _ _ => rfl) (wrRun_5 hw) dRun_bringLoads_56 ?_
  refine ev_getR hok fk_Run_271 (woLoads (wsRun_5 hw)) (fun _ _ _ => rfl) (wrLoads_3 (wsRun_5 hw)) dRun_bringLoads_59 ?_
  refine ev_iload_n dRun_bringLoads_62 rfl ?_
  obtain ⟨h1, H⟩ := H
  refine ev_iald hok (waLoads_3 (wsRun_5 hw)) h1 dRun_bringLoads_63 ?_
  refine ev_aload_n dRun_bringLoads_64 rfl ?_
  refine ev_getI hok fk_Run_98 (woRun hw) (fun _ _ _ => rfl) dRun_bringLoads_65 ?_
  refine ev_icmp_ne 76 dRun_bringLoads_68 (by decide) (fun c2 => ?_) (fun c2 => ?_)
  · have H := H.1 c2
    exact ev_sub [(0, .ref o), (1, .int x1)] rfl (sRun_bringLoads_76 o n sh Rf I L post x1 hok hw H)
  · have H := H.2 c2
    refine ev_aload_n dRun_bringLoads_71 rfl ?_
    refine ev_iload_n dRun_bringLoads_72 rfl ?_
    refine ev_callV [.int x1] [] (B' := (0, 0)) (B'' := (0, 0)) hok mmRun_sellSalt mk_Run_280 (ci := 7) rfl rfl (woRun hw) rfl (Nat.le_of_ble_eq_true rfl) rfl (Nat.le_of_ble_eq_true rfl) dRun_bringLoads_73 rfl (by decide) H (fun v τ p3 => ?_)
    obtain ⟨I5, L6, rfl, rfl, H⟩ := p3
    exact ev_sub [(0, .ref o), (1, .int x1)] rfl (sRun_bringLoads_76 o n sh Rf I5 L6 post x1 hok hw H)
def fRun_bringLoads_8 (D : va_G) (cA : FieldType → ClassId) (b : Nat) (E : State → Prop) (o : Nat) (n : Nat) (sh : Nat → qC) (Rf : Nat → Nat → Option Nat) (I : Nat → Nat → Int32) (L : Nat → Nat → Int64) (post : Option Value → qS → Prop) (x1 : Int32) : Prop :=
  (((I (o + 44) 9) ≤ x1 → Ev (qGG D cA b E) mLoads_forgetCome 0 (0, 0) 0 (lv_args 0 [.ref ((o + 44)), .int ((I o 17))]) [] (n, sh, Rf, I, L) (fun v τ => ∃ (I4 : Nat → Nat → Int32) (L5 : Nat → Nat → Int64), v = none ∧ τ = (n, sh, Rf, I4, L5) ∧ post none (n, sh, Rf, I4, L5))) ∧ (¬ (I (o + 44) 9) ≤ x1 → vp_in x1 2880 ∧ ((¬ (I ((o + 44) + 4) (x1 : Int32).toNatClampNeg) = (I o 17) → fRun_bringLoads_55 D cA b E o n sh Rf I L post x1) ∧ ((I ((o + 44) + 4) (x1 : Int32).toNatClampNeg) = (I o 17) → vp_in x1 2880 ∧ ((¬ (I ((o + 44) + 1) (x1 : Int32).toNatClampNeg) = 0 → fRun_bringLoads_55 D cA b E o n sh Rf I L post x1) ∧ ((I ((o + 44) + 1) (x1 : Int32).toNatClampNeg) = 0 → Ev (qGG D cA b E) mRun_bringGrain 1 (0, 0) 0 (lv_args 0 [.ref o, .int x1]) [] (n, sh, Rf, I, L) (fun v τ => ∃ (I12 : Nat → Nat → Int32) (L13 : Nat → Nat → Int64), v = none ∧ τ = (n, sh, Rf, I12, L13) ∧ fRun_bringLoads_76 D cA b E o n sh Rf I12 L13 post x1)))))))
set_option maxHeartbeats 4000000 in
set_option maxRecDepth 20000 in
theorem sRun_bringLoads_8 {D : va_G} {cA : FieldType → ClassId} {b : Nat} {E : State → Prop} (o : Nat) (n : Nat) (sh : Nat → qC) (Rf : Nat → Nat → Option Nat) (I : Nat → Nat → Int32) (L : Nat → Nat → Int64) (post : Option Value → qS → Prop) (x1 : Int32) (hok : q_ok (qGG D cA b E)) (hw : WfRun (qGG D cA b E) n sh Rf o) (H : fRun_bringLoads_8 D cA b E o n sh Rf I L post x1) : Ev (qGG D cA b E) mRun_bringLoads 3 (0, 0) 8 [(0, .ref o), (1, .int x1)] [] (n, sh, Rf, I, L) post := by
  unfold fRun_bringLoads_8 at H
  refine ev_iload_n dRun_bringLoads_8 rfl ?_
  refine ev_aload_n dRun_bringLoads_9 rfl ?_
  refine ev_getR hok fk_Run_49 (woRun hw) (fun _ _ _ => rfl) (wrRun_5 hw) dRun_bringLoads_10 ?_
  refine ev_getI hok fk_Run_270 (woLoads (wsRun_5 hw)) (fun _ _ _ => rfl) dRun_bringLoads_13 ?_
  refine ev_icmp_ge 82 dRun_bringLoads_16 (by decide) (fun c1 => ?_) (fun c1 => ?_)
  · have H := H.1 c1
    refine ev_aload_n dRun_bringLoads_82 rfl ?_
    refine ev_getR hok fk_Run_49 (woRun hw) (fun _ _ _ => rfl) (wrRun_5 hw) dRun_bringLoads_83 ?_
    refine ev_aload_n dRun_bringLoads_86 rfl ?_
    refine ev_getI hok fk_Run_98 (woRun hw) (fun _ _ _ => rfl) dRun_bringLoads_87 ?_
    refine ev_callV [.int ((I o 17))] [] (B' := (0, 0)) (B'' := (0, 0)) hok mmLoads_forgetCome mk_Run_283 (ci := 2) rfl rfl (woLoads (wsRun_5 hw)) rfl (Nat.le_of_ble_eq_true rfl) rfl (Nat.le_of_ble_eq_true rfl) dRun_bringLoads_90 rfl (by decide) H (fun v τ p2 => ?_)
    obtain ⟨I4, L5, rfl, rfl, H⟩ := p2
    exact ev_vret rfl dRun_bringLoads_93 H
  · have H := H.2 c1
    refine ev_aload_n dRun_bringLoads_19 rfl ?_
    refine ev_getR hok fk_Run_49 (woRun hw) (fun _ _ _ => rfl) (wrRun_5 hw) dRun_bringLoads_20 ?_
    refine ev_getR hok fk_Run_271 (woLoads (wsRun_5 hw)) (fun _ _ _ => rfl) (wrLoads_3 (wsRun_5 hw)) dRun_bringLoads_23 ?_
    refine ev_iload_n dRun_bringLoads_26 rfl ?_
    obtain ⟨h6, H⟩ := H
    refine ev_iald hok (waLoads_3 (wsRun_5 hw)) h6 dRun_bringLoads_27 ?_
    refine ev_aload_n dRun_bringLoads_28 rfl ?_
    refine ev_getI hok fk_Run_98 (woRun hw) (fun _ _ _ => rfl) dRun_bringLoads_29 ?_
    refine ev_icmp_ne 55 dRun_bringLoads_32 (by decide) (fun c7 => ?_) (fun c7 => ?_)
    · have H := H.1 c7
      exact ev_sub [(0, .ref o), (1, .int x1)] rfl (sRun_bringLoads_55 o n sh Rf I L post x1 hok hw H)
    · have H := H.2 c7
      refine ev_aload_n dRun_bringLoads_35 rfl ?_
      refine ev_getR hok fk_Run_49 (woRun hw) (fun _ _ _ => rfl) (wrRun_5 hw) dRun_bringLoads_36 ?_
      refine ev_getR hok fk_Run_274 (woLoads (wsRun_5 hw)) (fun _ _ _ => rfl) (wrLoads_0 (wsRun_5 hw)) dRun_bringLoads_39 ?_
      refine ev_iload_n dRun_bringLoads_42 rfl ?_
      obtain ⟨h8, H⟩ := H
      refine ev_iald hok (waLoads_0 (wsRun_5 hw)) h8 dRun_bringLoads_43 ?_
      refine ev_if_ne 55 dRun_bringLoads_44 (by decide) (fun c9 => ?_) (fun c9 => ?_)
      · have H := H.1 c9
        exact ev_sub [(0, .ref o), (1, .int x1)] rfl (sRun_bringLoads_55 o n sh Rf I L post x1 hok hw H)
      · have H := H.2 c9
        refine ev_aload_n dRun_bringLoads_47 rfl ?_
        refine ev_iload_n dRun_bringLoads_48 rfl ?_
        refine ev_callV [.int x1] [] (B' := (0, 0)) (B'' := (0, 0)) hok mmRun_bringGrain mk_Run_277 (ci := 7) rfl rfl (woRun hw) rfl (Nat.le_of_ble_eq_true rfl) rfl (Nat.le_of_ble_eq_true rfl) dRun_bringLoads_49 rfl (by decide) H (fun v τ p10 => ?_)
        obtain ⟨I12, L13, rfl, rfl, H⟩ := p10
        refine ev_goto 76 dRun_bringLoads_52 (by decide) ?_
        exact ev_sub [(0, .ref o), (1, .int x1)] rfl (sRun_bringLoads_76 o n sh Rf I12 L13 post x1 hok hw H)
def fRun_bringLoads_0 (D : va_G) (cA : FieldType → ClassId) (b : Nat) (E : State → Prop) (o : Nat) (n : Nat) (sh : Nat → qC) (Rf : Nat → Nat → Option Nat) (I : Nat → Nat → Int32) (L : Nat → Nat → Int64) (post : Option Value → qS → Prop)  : Prop :=
  Ev (qGG D cA b E) mRun_bringLoads 3 (0, 0) 8 [(0, .ref o), (1, .int ((I (o + 44) 8)))] [] (n, sh, Rf, I, L) post
set_option maxHeartbeats 4000000 in
set_option maxRecDepth 20000 in
theorem sRun_bringLoads_0 {D : va_G} {cA : FieldType → ClassId} {b : Nat} {E : State → Prop} (o : Nat) (n : Nat) (sh : Nat → qC) (Rf : Nat → Nat → Option Nat) (I : Nat → Nat → Int32) (L : Nat → Nat → Int64) (post : Option Value → qS → Prop)  (hok : q_ok (qGG D cA b E)) (hw : WfRun (qGG D cA b E) n sh Rf o) (H : fRun_bringLoads_0 D cA b E o n sh Rf I L post ) : Ev (qGG D cA b E) mRun_bringLoads 3 (0, 0) 0 [(0, .ref o)] [] (n, sh, Rf, I, L) post := by
  unfold fRun_bringLoads_0 at H
  refine ev_aload_n dRun_bringLoads_0 rfl ?_
  refine ev_getR hok fk_Run_49 (woRun hw) (fun _ _ _ => rfl) (wrRun_5 hw) dRun_bringLoads_1 ?_
  refine ev_getI hok fk_Run_267 (woLoads (wsRun_5 hw)) (fun _ _ _ => rfl) dRun_bringLoads_4 ?_
  refine ev_istore_n dRun_bringLoads_7 (by decide) ?_
  exact ev_sub [(0, .ref o), (1, .int ((I (o + 44) 8)))] rfl H
def fRun_bury_60 (D : va_G) (cA : FieldType → ClassId) (b : Nat) (E : State → Prop) (o : Nat) (n : Nat) (sh : Nat → qC) (Rf : Nat → Nat → Option Nat) (I : Nat → Nat → Int32) (L : Nat → Nat → Int64) (post : Option Value → qS → Prop) (x1 : Int32) (x2 : Int32) (x3 : Int32) : Prop :=
  ((3 ≤ x3 → post none (n, sh, Rf, I, L)) ∧ (¬ 3 ≤ x3 → vp_in ((x1 * 3) + x3) 18 ∧ ∀ I2 : Nat → Nat → Int32, q_u I (o + 62) (((x1 * 3) + x3) : Int32).toNatClampNeg (-1) = I2 → Ev (qGG D cA b E) mRun_bury 3 (0, 0) 60 [(0, .ref o), (1, .int x1), (2, .int x2), (3, .int ((x3 + Int32.ofInt 1)))] [] (n, sh, Rf, I2, L) post))
set_option maxHeartbeats 4000000 in
set_option maxRecDepth 20000 in
theorem sRun_bury_60 {D : va_G} {cA : FieldType → ClassId} {b : Nat} {E : State → Prop} (o : Nat) (n : Nat) (sh : Nat → qC) (Rf : Nat → Nat → Option Nat) (I : Nat → Nat → Int32) (L : Nat → Nat → Int64) (post : Option Value → qS → Prop) (x1 : Int32) (x2 : Int32) (x3 : Int32) (hok : q_ok (qGG D cA b E)) (hw : WfRun (qGG D cA b E) n sh Rf o) (H : fRun_bury_60 D cA b E o n sh Rf I L post x1 x2 x3) : Ev (qGG D cA b E) mRun_bury 3 (0, 0) 60 [(0, .ref o), (1, .int x1), (2, .int x2), (3, .int x3)] [] (n, sh, Rf, I, L) post := by
  unfold fRun_bury_60 at H
  refine ev_iload_n dRun_bury_60 rfl ?_
  refine ev_iconst (3) dRun_bury_61 (by decide) ?_
  refine ev_icmp_ge 82 dRun_bury_62 (by decide) (fun c1 => ?_) (fun c1 => ?_)
  · have H := H.1 c1
    exact ev_vret rfl dRun_bury_82 H
  · have H := H.2 c1
    refine ev_aload_n dRun_bury_65 rfl ?_
    refine ev_getR hok fk_Run_78 (woRun hw) (fun _ _ _ => rfl) (wrRun_11 hw) dRun_bury_66 ?_
    refine ev_iload_n dRun_bury_69 rfl ?_
    refine ev_iconst (3) dRun_bury_70 (by decide) ?_
    refine ev_imul dRun_bury_71 ?_
    refine ev_iload_n dRun_bury_72 rfl ?_
    refine ev_iadd dRun_bury_73 ?_
    refine ev_iconst (-1) dRun_bury_74 (by decide) ?_
    obtain ⟨h3, H⟩ := H
    refine ev_iast hok (waRun_11 hw) h3 dRun_bury_75 ?_
    generalize eI2 : q_u I (o + 62) (((x1 * 3) + x3) : Int32).toNatClampNeg (-1) = I2
    have H := H I2 eI2
    refine ev_iinc dRun_bury_76 rfl (by decide) ?_
    refine ev_goto 60 dRun_bury_79 (by decide) ?_
    exact ev_sub [(0, .ref o), (1, .int x1), (2, .int x2), (3, .int ((x3 + Int32.ofInt 1)))] rfl H
def fRun_bury_22 (D : va_G) (cA : FieldType → ClassId) (b : Nat) (E : State → Prop) (o : Nat) (n : Nat) (sh : Nat → qC) (Rf : Nat → Nat → Option Nat) (I : Nat → Nat → Int32) (L : Nat → Nat → Int64) (post : Option Value → qS → Prop) (x1 : Int32) (x2 : Int32) : Prop :=
  vp_in x1 6 ∧ Ev (qGG D cA b E) mRun_payTo 0 (0, 0) 0 (lv_args 0 [.ref o, .int x2, .long ((L (o + 61) (x1 : Int32).toNatClampNeg))]) [] (n, sh, Rf, I, L) (fun v τ => ∃ (I4 : Nat → Nat → Int32) (L5 : Nat → Nat → Int64), v = none ∧ τ = (n, sh, Rf, I4, L5) ∧ vp_in x1 6 ∧ ∀ L6 : Nat → Nat → Int64, q_u L5 (o + 61) (x1 : Int32).toNatClampNeg 0 = L6 → Ev (qGG D cA b E) mPapers_leaveTo 2 (0, 0) 0 (lv_args 0 [.ref ((o + 31)), .int x2, .int x1]) [] (n, sh, Rf, I4, L6) (fun v τ => ∃ (I10 : Nat → Nat → Int32) (L11 : Nat → Nat → Int64), v = none ∧ τ = (n, sh, Rf, I10, L11) ∧ Ev (qGG D cA b E) mLoads_leaveTo 0 (0, 0) 0 (lv_args 0 [.ref ((o + 44)), .int x2, .int x1]) [] (n, sh, Rf, I10, L11) (fun v τ => ∃ (I14 : Nat → Nat → Int32) (L15 : Nat → Nat → Int64), v = none ∧ τ = (n, sh, Rf, I14, L15) ∧ Ev (qGG D cA b E) mRun_bury 3 (0, 0) 60 [(0, .ref o), (1, .int x1), (2, .int x2), (3, .int 0)] [] (n, sh, Rf, I14, L15) post)))
set_option maxHeartbeats 4000000 in
set_option maxRecDepth 20000 in
theorem sRun_bury_22 {D : va_G} {cA : FieldType → ClassId} {b : Nat} {E : State → Prop} (o : Nat) (n : Nat) (sh : Nat → qC) (Rf : Nat → Nat → Option Nat) (I : Nat → Nat → Int32) (L : Nat → Nat → Int64) (post : Option Value → qS → Prop) (x1 : Int32) (x2 : Int32) (hok : q_ok (qGG D cA b E)) (hw : WfRun (qGG D cA b E) n sh Rf o) (H : fRun_bury_22 D cA b E o n sh Rf I L post x1 x2) : Ev (qGG D cA b E) mRun_bury 3 (0, 0) 22 [(0, .ref o), (1, .int x1), (2, .int x2)] [] (n, sh, Rf, I, L) post := by
  unfold fRun_bury_22 at H
  refine ev_aload_n dRun_bury_22 rfl ?_
  refine ev_iload_n dRun_bury_23 rfl ?_
  refine ev_aload_n dRun_bury_24 rfl ?_
  refine ev_getR hok fk_Run_74 (woRun hw) (fun _ _ _ => rfl) (wrRun_10 hw) dRun_bury_25 ?_
  refine ev_iload_n dRun_bury_28 rfl ?_
  obtain ⟨h1, H⟩ := H
  refine ev_lald hok (waRun_10 hw) h1 dRun_bury_29 ?_
  refine ev_callV [.int x2, .long ((L (o + 61) (x1 : Int32).toNatClampNeg))] [] (B' := (0, 0)) (B'' := (0, 0)) hok mmRun_payTo mk_Run_216 (ci := 7) rfl rfl (woRun hw) rfl (Nat.le_of_ble_eq_true rfl) rfl (Nat.le_of_ble_eq_true rfl) dRun_bury_30 rfl (by decide) H (fun v τ p2 => ?_)
  obtain ⟨I4, L5, rfl, rfl, H⟩ := p2
  refine ev_aload_n dRun_bury_33 rfl ?_
  refine ev_getR hok fk_Run_74 (woRun hw) (fun _ _ _ => rfl) (wrRun_10 hw) dRun_bury_34 ?_
  refine ev_iload_n dRun_bury_37 rfl ?_
  refine ev_lconst 0 dRun_bury_38 (by decide) ?_
  obtain ⟨h7, H⟩ := H
  refine ev_last hok (waRun_10 hw) h7 dRun_bury_39 ?_
  generalize eL6 : q_u L5 (o + 61) (x1 : Int32).toNatClampNeg 0 = L6
  have H := H L6 eL6
  refine ev_aload_n dRun_bury_40 rfl ?_
  refine ev_getR hok fk_Run_42 (woRun hw) (fun _ _ _ => rfl) (wrRun_4 hw) dRun_bury_41 ?_
  refine ev_iload_n dRun_bury_44 rfl ?_
  refine ev_iload_n dRun_bury_45 rfl ?_
  refine ev_callV [.int x2, .int x1] [] (B' := (0, 0)) (B'' := (0, 0)) hok mmPapers_leaveTo mk_Run_220 (ci := 3) rfl rfl (woPapers (wsRun_4 hw)) rfl (Nat.le_of_ble_eq_true rfl) rfl (Nat.le_of_ble_eq_true rfl) dRun_bury_46 rfl (by decide) H (fun v τ p8 => ?_)
  obtain ⟨I10, L11, rfl, rfl, H⟩ := p8
  refine ev_aload_n dRun_bury_49 rfl ?_
  refine ev_getR hok fk_Run_49 (woRun hw) (fun _ _ _ => rfl) (wrRun_5 hw) dRun_bury_50 ?_
  refine ev_iload_n dRun_bury_53 rfl ?_
  refine ev_iload_n dRun_bury_54 rfl ?_
  refine ev_callV [.int x2, .int x1] [] (B' := (0, 0)) (B'' := (0, 0)) hok mmLoads_leaveTo mk_Run_224 (ci := 2) rfl rfl (woLoads (wsRun_5 hw)) rfl (Nat.le_of_ble_eq_true rfl) rfl (Nat.le_of_ble_eq_true rfl) dRun_bury_55 rfl (by decide) H (fun v τ p12 => ?_)
  obtain ⟨I14, L15, rfl, rfl, H⟩ := p12
  refine ev_iconst (0) dRun_bury_58 (by decide) ?_
  refine ev_istore_n dRun_bury_59 (by decide) ?_
  exact ev_sub [(0, .ref o), (1, .int x1), (2, .int x2), (3, .int 0)] rfl H
def fRun_bury_0 (D : va_G) (cA : FieldType → ClassId) (b : Nat) (E : State → Prop) (o : Nat) (n : Nat) (sh : Nat → qC) (Rf : Nat → Nat → Option Nat) (I : Nat → Nat → Int32) (L : Nat → Nat → Int64) (post : Option Value → qS → Prop) (x1 : Int32) : Prop :=
  vp_in x1 6 ∧ (((I (o + 64) (x1 : Int32).toNatClampNeg) = (-1) → fRun_bury_22 D cA b E o n sh Rf I L post x1 (I (o + 64) (x1 : Int32).toNatClampNeg)) ∧ (¬ (I (o + 64) (x1 : Int32).toNatClampNeg) = (-1) → Ev (qGG D cA b E) mRun_isDead 0 (0, 0) 0 (lv_args 0 [.ref o, .int ((I (o + 64) (x1 : Int32).toNatClampNeg))]) [] (n, sh, Rf, I, L) (fun v τ => ∃ (r4 : Int32) (I5 : Nat → Nat → Int32) (L6 : Nat → Nat → Int64), v = some (.int r4) ∧ τ = (n, sh, Rf, I5, L6) ∧ ((r4 = 0 → fRun_bury_22 D cA b E o n sh Rf I5 L6 post x1 (I (o + 64) (x1 : Int32).toNatClampNeg)) ∧ (¬ r4 = 0 → fRun_bury_22 D cA b E o n sh Rf I5 L6 post x1 (-1))))))
set_option maxHeartbeats 4000000 in
set_option maxRecDepth 20000 in
theorem sRun_bury_0 {D : va_G} {cA : FieldType → ClassId} {b : Nat} {E : State → Prop} (o : Nat) (n : Nat) (sh : Nat → qC) (Rf : Nat → Nat → Option Nat) (I : Nat → Nat → Int32) (L : Nat → Nat → Int64) (post : Option Value → qS → Prop) (x1 : Int32) (hok : q_ok (qGG D cA b E)) (hw : WfRun (qGG D cA b E) n sh Rf o) (H : fRun_bury_0 D cA b E o n sh Rf I L post x1) : Ev (qGG D cA b E) mRun_bury 3 (0, 0) 0 [(0, .ref o), (1, .int x1)] [] (n, sh, Rf, I, L) post := by
  unfold fRun_bury_0 at H
  refine ev_aload_n dRun_bury_0 rfl ?_
  refine ev_getR hok fk_Run_84 (woRun hw) (fun _ _ _ => rfl) (wrRun_13 hw) dRun_bury_1 ?_
  refine ev_iload_n dRun_bury_4 rfl ?_
  obtain ⟨h1, H⟩ := H
  refine ev_iald hok (waRun_13 hw) h1 dRun_bury_5 ?_
  refine ev_istore_n dRun_bury_6 (by decide) ?_
  refine ev_iload_n dRun_bury_7 rfl ?_
  refine ev_iconst (-1) dRun_bury_8 (by decide) ?_
  refine ev_icmp_eq 22 dRun_bury_9 (by decide) (fun c2 => ?_) (fun c2 => ?_)
  · have H := H.1 c2
    exact ev_sub [(0, .ref o), (1, .int x1), (2, .int ((I (o + 64) (x1 : Int32).toNatClampNeg)))] rfl (sRun_bury_22 o n sh Rf I L post x1 (I (o + 64) (x1 : Int32).toNatClampNeg) hok hw H)
  · have H := H.2 c2
    refine ev_aload_n dRun_bury_12 rfl ?_
    refine ev_iload_n dRun_bury_13 rfl ?_
    refine ev_callV [.int ((I (o + 64) (x1 : Int32).toNatClampNeg))] [] (B' := (0, 0)) (B'' := (0, 0)) hok mmRun_isDead mk_Run_212 (ci := 7) rfl rfl (woRun hw) rfl (Nat.le_of_ble_eq_true rfl) rfl (Nat.le_of_ble_eq_true rfl) dRun_bury_14 rfl (by decide) H (fun v τ p3 => ?_)
    obtain ⟨r4, I5, L6, rfl, rfl, H⟩ := p3
    refine ev_if_eq 22 dRun_bury_17 (by decide) (fun c7 => ?_) (fun c7 => ?_)
    · have H := H.1 c7
      exact ev_sub [(0, .ref o), (1, .int x1), (2, .int ((I (o + 64) (x1 : Int32).toNatClampNeg)))] rfl (sRun_bury_22 o n sh Rf I5 L6 post x1 (I (o + 64) (x1 : Int32).toNatClampNeg) hok hw H)
    · have H := H.2 c7
      refine ev_iconst (-1) dRun_bury_20 (by decide) ?_
      refine ev_istore_n dRun_bury_21 (by decide) ?_
      exact ev_sub [(0, .ref o), (1, .int x1), (2, .int ((-1)))] rfl (sRun_bury_22 o n sh Rf I5 L6 post x1 (-1) hok hw H)
def fRun_carryGrain_0 (D : va_G) (cA : FieldType → ClassId) (b : Nat) (E : State → Prop) (o : Nat) (n : Nat) (sh : Nat → qC) (Rf : Nat → Nat → Option Nat) (I : Nat → Nat → Int32) (L : Nat → Nat → Int64) (post : Option Value → qS → Prop) (x1 : Int32) (uo_0 : Nat) : Prop :=
  vp_in (I (o + 58) 2) 5 ∧ vp_in (I (o + 58) 1) 3 ∧ Ev (qGG D cA b E) mLand_daysBetween 0 (0, 0) 0 (lv_args 0 [.ref uo_0, .int ((I (uo_0 + 10) ((I (o + 58) 2) : Int32).toNatClampNeg)), .int ((I (uo_0 + 3) ((I (o + 58) 1) : Int32).toNatClampNeg))]) [] (n, sh, Rf, I, L) (fun v τ => ∃ (r4 : Int32) (I5 : Nat → Nat → Int32) (L6 : Nat → Nat → Int64), v = some (.int r4) ∧ τ = (n, sh, Rf, I5, L6) ∧ vp_in x1 6 ∧ Ev (qGG D cA b E) mRun_carryingCost 0 (0, 0) 0 (lv_args 0 [.ref o, .int ((I5 (o + 58) 2)), .int r4]) [] (n, sh, Rf, I5, L6) (fun v τ => ∃ (r9 : Int32) (I10 : Nat → Nat → Int32) (L11 : Nat → Nat → Int64), v = some (.int r9) ∧ τ = (n, sh, Rf, I10, L11) ∧ vp_in x1 6 ∧ ∀ L12 : Nat → Nat → Int64, q_u L11 (o + 61) (x1 : Int32).toNatClampNeg ((L6 (o + 61) (x1 : Int32).toNatClampNeg) - (((I5 (o + 58) 3) : Int32).toInt64 * (r9 : Int32).toInt64)) = L12 → vp_in (I10 (o + 58) 2) 5 ∧ vp_in (I10 (o + 58) 2) 5 ∧ ∀ I15 : Nat → Nat → Int32, q_u I10 ((o + 24) + 6) ((I10 (o + 58) 2) : Int32).toNatClampNeg ((I10 ((o + 24) + 6) ((I10 (o + 58) 2) : Int32).toNatClampNeg) - ((I10 (o + 58) 3) * 10)) = I15 → Ev (qGG D cA b E) mLoads_sendGrain 2 (0, 0) 0 (lv_args 0 [.ref ((o + 44)), .int x1, .ref ((o + 58)), .int ((I15 o 17)), .int r4]) [] (n, sh, Rf, I15, L12) (fun v τ => ∃ (I19 : Nat → Nat → Int32) (L20 : Nat → Nat → Int64), v = none ∧ τ = (n, sh, Rf, I19, L20) ∧ post none (n, sh, Rf, I19, L20))))
set_option maxHeartbeats 4000000 in
set_option maxRecDepth 20000 in
theorem sRun_carryGrain_0 {D : va_G} {cA : FieldType → ClassId} {b : Nat} {E : State → Prop} (o : Nat) (n : Nat) (sh : Nat → qC) (Rf : Nat → Nat → Option Nat) (I : Nat → Nat → Int32) (L : Nat → Nat → Int64) (post : Option Value → qS → Prop) (x1 : Int32) (uo_0 : Nat) (hok : q_ok (qGG D cA b E)) (hw : WfRun (qGG D cA b E) n sh Rf o) (huo_0 : Rf o 0 = some uo_0) (hwuo_0 : WfLand (qGG D cA b E) n sh Rf uo_0) (H : fRun_carryGrain_0 D cA b E o n sh Rf I L post x1 uo_0) : Ev (qGG D cA b E) mRun_carryGrain 3 (0, 0) 0 [(0, .ref o), (1, .int x1)] [] (n, sh, Rf, I, L) post := by
  unfold fRun_carryGrain_0 at H
  refine ev_aload_n dRun_carryGrain_0 rfl ?_
  refine ev_getR hok fk_Run_12 (woRun hw) (fun _ _ _ => rfl) huo_0 dRun_carryGrain_1 ?_
  refine ev_aload_n dRun_carryGrain_4 rfl ?_
  refine ev_getR hok fk_Run_12 (woRun hw) (fun _ _ _ => rfl) huo_0 dRun_carryGrain_5 ?_
  refine ev_getR hok fk_Run_358 (woLand hwuo_0) (fun _ _ _ => rfl) (wrLand_14 hwuo_0) dRun_carryGrain_8 ?_
  refine ev_aload_n dRun_carryGrain_11 rfl ?_
  refine ev_getR hok fk_Run_63 (woRun hw) (fun _ _ _ => rfl) (wrRun_7 hw) dRun_carryGrain_12 ?_
  refine ev_getI hok fk_Run_440 (woWay (wsRun_7 hw)) (fun _ _ _ => rfl) dRun_carryGrain_15 ?_
  obtain ⟨h1, H⟩ := H
  refine ev_iald hok (waLand_14 hwuo_0) h1 dRun_carryGrain_18 ?_
  refine ev_aload_n dRun_carryGrain_19 rfl ?_
  refine ev_getR hok fk_Run_12 (woRun hw) (fun _ _ _ => rfl) huo_0 dRun_carryGrain_20 ?_
  refine ev_getR hok fk_Run_443 (woLand hwuo_0) (fun _ _ _ => rfl) (wrLand_7 hwuo_0) dRun_carryGrain_23 ?_
  refine ev_aload_n dRun_carryGrain_26 rfl ?_
  refine ev_getR hok fk_Run_63 (woRun hw) (fun _ _ _ => rfl) (wrRun_7 hw) dRun_carryGrain_27 ?_
  refine ev_getI hok fk_Run_429 (woWay (wsRun_7 hw)) (fun _ _ _ => rfl) dRun_carryGrain_30 ?_
  obtain ⟨h2, H⟩ := H
  refine ev_iald hok (waLand_7 hwuo_0) h2 dRun_carryGrain_33 ?_
  refine ev_callV [.int ((I (uo_0 + 10) ((I (o + 58) 2) : Int32).toNatClampNeg)), .int ((I (uo_0 + 3) ((I (o + 58) 1) : Int32).toNatClampNeg))] [] (B' := (0, 0)) (B'' := (0, 0)) hok mmLand_daysBetween mk_Run_361 (ci := 1) rfl rfl (woLand hwuo_0) rfl (Nat.le_of_ble_eq_true rfl) rfl (Nat.le_of_ble_eq_true rfl) dRun_carryGrain_34 rfl (by decide) H (fun v τ p3 => ?_)
  obtain ⟨r4, I5, L6, rfl, rfl, H⟩ := p3
  refine ev_istore_n dRun_carryGrain_37 (by decide) ?_
  refine ev_aload_n dRun_carryGrain_38 rfl ?_
  refine ev_getR hok fk_Run_74 (woRun hw) (fun _ _ _ => rfl) (wrRun_10 hw) dRun_carryGrain_39 ?_
  refine ev_iload_n dRun_carryGrain_42 rfl ?_
  refine ev_dup2_11 dRun_carryGrain_43 rfl rfl ?_
  obtain ⟨h7, H⟩ := H
  refine ev_lald hok (waRun_10 hw) h7 dRun_carryGrain_44 ?_
  refine ev_aload_n dRun_carryGrain_45 rfl ?_
  refine ev_getR hok fk_Run_63 (woRun hw) (fun _ _ _ => rfl) (wrRun_7 hw) dRun_carryGrain_46 ?_
  refine ev_getI hok fk_Run_423 (woWay (wsRun_7 hw)) (fun _ _ _ => rfl) dRun_carryGrain_49 ?_
  refine ev_i2l dRun_carryGrain_52 ?_
  refine ev_aload_n dRun_carryGrain_53 rfl ?_
  refine ev_aload_n dRun_carryGrain_54 rfl ?_
  refine ev_getR hok fk_Run_63 (woRun hw) (fun _ _ _ => rfl) (wrRun_7 hw) dRun_carryGrain_55 ?_
  refine ev_getI hok fk_Run_440 (woWay (wsRun_7 hw)) (fun _ _ _ => rfl) dRun_carryGrain_58 ?_
  refine ev_iload_n dRun_carryGrain_61 rfl ?_
  refine ev_callV [.int ((I5 (o + 58) 2)), .int r4] [.long (((I5 (o + 58) 3) : Int32).toInt64), .long ((L6 (o + 61) (x1 : Int32).toNatClampNeg)), .int x1, .ref ((o + 61))] (B' := (0, 0)) (B'' := (0, 0)) hok mmRun_carryingCost mk_Run_446 (ci := 7) rfl rfl (woRun hw) rfl (Nat.le_of_ble_eq_true rfl) rfl (Nat.le_of_ble_eq_true rfl) dRun_carryGrain_62 rfl (by decide) H (fun v τ p8 => ?_)
  obtain ⟨r9, I10, L11, rfl, rfl, H⟩ := p8
  refine ev_i2l dRun_carryGrain_65 ?_
  refine ev_lmul dRun_carryGrain_66 ?_
  refine ev_lsub dRun_carryGrain_67 ?_
  obtain ⟨h13, H⟩ := H
  refine ev_last hok (waRun_10 hw) h13 dRun_carryGrain_68 ?_
  generalize eL12 : q_u L11 (o + 61) (x1 : Int32).toNatClampNeg ((L6 (o + 61) (x1 : Int32).toNatClampNeg) - (((I5 (o + 58) 3) : Int32).toInt64 * (r9 : Int32).toInt64)) = L12
  have H := H L12 eL12
  refine ev_aload_n dRun_carryGrain_69 rfl ?_
  refine ev_getR hok fk_Run_35 (woRun hw) (fun _ _ _ => rfl) (wrRun_3 hw) dRun_carryGrain_70 ?_
  refine ev_getR hok fk_Run_449 (woRealm (wsRun_3 hw)) (fun _ _ _ => rfl) (wrRealm_5 (wsRun_3 hw)) dRun_carryGrain_73 ?_
  refine ev_aload_n dRun_carryGrain_76 rfl ?_
  refine ev_getR hok fk_Run_63 (woRun hw) (fun _ _ _ => rfl) (wrRun_7 hw) dRun_carryGrain_77 ?_
  refine ev_getI hok fk_Run_440 (woWay (wsRun_7 hw)) (fun _ _ _ => rfl) dRun_carryGrain_80 ?_
  refine ev_dup2_11 dRun_carryGrain_83 rfl rfl ?_
  obtain ⟨h14, H⟩ := H
  refine ev_iald hok (waRealm_5 (wsRun_3 hw)) h14 dRun_carryGrain_84 ?_
  refine ev_aload_n dRun_carryGrain_85 rfl ?_
  refine ev_getR hok fk_Run_63 (woRun hw) (fun _ _ _ => rfl) (wrRun_7 hw) dRun_carryGrain_86 ?_
  refine ev_getI hok fk_Run_423 (woWay (wsRun_7 hw)) (fun _ _ _ => rfl) dRun_carryGrain_89 ?_
  refine ev_bipush (10) dRun_carryGrain_92 (by decide) ?_
  refine ev_imul dRun_carryGrain_94 ?_
  refine ev_isub dRun_carryGrain_95 ?_
  obtain ⟨h16, H⟩ := H
  refine ev_iast hok (waRealm_5 (wsRun_3 hw)) h16 dRun_carryGrain_96 ?_
  generalize eI15 : q_u I10 ((o + 24) + 6) ((I10 (o + 58) 2) : Int32).toNatClampNeg ((I10 ((o + 24) + 6) ((I10 (o + 58) 2) : Int32).toNatClampNeg) - ((I10 (o + 58) 3) * 10)) = I15
  have H := H I15 eI15
  refine ev_aload_n dRun_carryGrain_97 rfl ?_
  refine ev_getR hok fk_Run_49 (woRun hw) (fun _ _ _ => rfl) (wrRun_5 hw) dRun_carryGrain_98 ?_
  refine ev_iload_n dRun_carryGrain_101 rfl ?_
  refine ev_aload_n dRun_carryGrain_102 rfl ?_
  refine ev_getR hok fk_Run_63 (woRun hw) (fun _ _ _ => rfl) (wrRun_7 hw) dRun_carryGrain_103 ?_
  refine ev_aload_n dRun_carryGrain_106 rfl ?_
  refine ev_getI hok fk_Run_98 (woRun hw) (fun _ _ _ => rfl) dRun_carryGrain_107 ?_
  refine ev_iload_n dRun_carryGrain_110 rfl ?_
  refine ev_callV [.int x1, .ref ((o + 58)), .int ((I15 o 17)), .int r4] [] (B' := (0, 0)) (B'' := (0, 0)) hok mmLoads_sendGrain mk_Run_452 (ci := 2) rfl rfl (woLoads (wsRun_5 hw)) rfl (Nat.le_of_ble_eq_true rfl) rfl (Nat.le_of_ble_eq_true rfl) dRun_carryGrain_111 rfl (by decide) H (fun v τ p17 => ?_)
  obtain ⟨I19, L20, rfl, rfl, H⟩ := p17
  exact ev_vret rfl dRun_carryGrain_114 H
def fRun_drawPaper_95 (D : va_G) (cA : FieldType → ClassId) (b : Nat) (E : State → Prop) (o : Nat) (n : Nat) (sh : Nat → qC) (Rf : Nat → Nat → Option Nat) (I : Nat → Nat → Int32) (L : Nat → Nat → Int64) (post : Option Value → qS → Prop) (x1 : Int32) (x2 : Int32) (x3 : Int32) (x4 : Int32) (x5 : Int32) (uo_0 : Nat) (uo_1 : Nat) : Prop :=
  ∀ L1 : Nat → Nat → Int64, q_u L (o + 65) 5 ((L (o + 65) 5) + (x4 : Int32).toInt64) = L1 → post none (n, sh, Rf, I, L1)
set_option maxHeartbeats 4000000 in
set_option maxRecDepth 20000 in
theorem sRun_drawPaper_95 {D : va_G} {cA : FieldType → ClassId} {b : Nat} {E : State → Prop} (o : Nat) (n : Nat) (sh : Nat → qC) (Rf : Nat → Nat → Option Nat) (I : Nat → Nat → Int32) (L : Nat → Nat → Int64) (post : Option Value → qS → Prop) (x1 : Int32) (x2 : Int32) (x3 : Int32) (x4 : Int32) (x5 : Int32) (uo_0 : Nat) (uo_1 : Nat) (hok : q_ok (qGG D cA b E)) (hw : WfRun (qGG D cA b E) n sh Rf o) (huo_0 : Rf o 0 = some uo_0) (hwuo_0 : WfLand (qGG D cA b E) n sh Rf uo_0) (huo_1 : Rf o 1 = some uo_1) (hwuo_1 : WfTrade (qGG D cA b E) n sh Rf uo_1) (H : fRun_drawPaper_95 D cA b E o n sh Rf I L post x1 x2 x3 x4 x5 uo_0 uo_1) : Ev (qGG D cA b E) mRun_drawPaper 3 (0, 0) 95 [(0, .ref o), (1, .int x1), (2, .int x2), (3, .int x3), (4, .int x4), (5, .int x5)] [] (n, sh, Rf, I, L) post := by
  unfold fRun_drawPaper_95 at H
  refine ev_aload_n dRun_drawPaper_95 rfl ?_
  refine ev_getR hok fk_Run_87 (woRun hw) (fun _ _ _ => rfl) (wrRun_14 hw) dRun_drawPaper_96 ?_
  refine ev_iconst (5) dRun_drawPaper_99 (by decide) ?_
  refine ev_dup2_11 dRun_drawPaper_100 rfl rfl ?_
  refine ev_lald hok (waRun_14 hw) (by unfold vp_in; decide) dRun_drawPaper_101 ?_
  rw [show (5 : Int32).toNatClampNeg = 5 from rfl]
  refine ev_iload dRun_drawPaper_102 rfl ?_
  refine ev_i2l dRun_drawPaper_104 ?_
  refine ev_ladd dRun_drawPaper_105 ?_
  refine ev_last hok (waRun_14 hw) (by unfold vp_in; decide) dRun_drawPaper_106 ?_
  rw [show (5 : Int32).toNatClampNeg = 5 from rfl]
  generalize eL1 : q_u L (o + 65) 5 ((L (o + 65) 5) + (x4 : Int32).toInt64) = L1
  have H := H L1 eL1
  exact ev_vret rfl dRun_drawPaper_107 H
def fRun_drawPaper_0 (D : va_G) (cA : FieldType → ClassId) (b : Nat) (E : State → Prop) (o : Nat) (n : Nat) (sh : Nat → qC) (Rf : Nat → Nat → Option Nat) (I : Nat → Nat → Int32) (L : Nat → Nat → Int64) (post : Option Value → qS → Prop) (x1 : Int32) (x2 : Int32) (x3 : Int32) (uo_0 : Nat) (uo_1 : Nat) : Prop :=
  vp_in x1 1440 ∧ vp_in x1 1440 ∧ vp_in x2 3 ∧ vp_in x2 3 ∧ ∀ I4 : Nat → Nat → Int32, q_u I ((o + 24) + 3) (x2 : Int32).toNatClampNeg ((I ((o + 24) + 3) (x2 : Int32).toNatClampNeg) - (I ((o + 31) + 3) (x1 : Int32).toNatClampNeg)) = I4 → Ev (qGG D cA b E) mPapers_draw 1 (0, 0) 0 (lv_args 0 [.ref ((o + 31)), .int x1, .int ((I4 o 17))]) [] (n, sh, Rf, I4, L) (fun v τ => ∃ (I8 : Nat → Nat → Int32) (L9 : Nat → Nat → Int64), v = none ∧ τ = (n, sh, Rf, I8, L9) ∧ ∀ L10 : Nat → Nat → Int64, q_u L9 (o + 65) 9 ((L9 (o + 65) 9) + 1) = L10 → vp_in x1 1440 ∧ ∀ L12 : Nat → Nat → Int64, q_u L10 (o + 65) 8 ((L10 (o + 65) 8) + (((I8 o 17) - (I8 ((o + 31) + 4) (x1 : Int32).toNatClampNeg)) : Int32).toInt64) = L12 → ((x3 = (-1) → fRun_drawPaper_95 D cA b E o n sh Rf I8 L12 post x1 x2 x3 (I ((o + 31) + 3) (x1 : Int32).toNatClampNeg) (I ((o + 31) + 1) (x1 : Int32).toNatClampNeg) uo_0 uo_1) ∧ (¬ x3 = (-1) → ((¬ (I ((o + 31) + 1) (x1 : Int32).toNatClampNeg) = (-1) → vp_in x2 3 ∧ vp_in x3 5 ∧ Ev (qGG D cA b E) mLand_daysBetween 0 (0, 0) 0 (lv_args 0 [.ref uo_0, .int ((I8 (uo_0 + 6) (x2 : Int32).toNatClampNeg)), .int ((I8 (uo_0 + 10) (x3 : Int32).toNatClampNeg))]) [] (n, sh, Rf, I8, L12) (fun v τ => ∃ (r18 : Int32) (I19 : Nat → Nat → Int32) (L20 : Nat → Nat → Int64), v = some (.int r18) ∧ τ = (n, sh, Rf, I19, L20) ∧ vp_in (I ((o + 31) + 1) (x1 : Int32).toNatClampNeg) 6 ∧ vp_in (I ((o + 31) + 1) (x1 : Int32).toNatClampNeg) 6 ∧ ∀ y23 : Int64, ((if (((I ((o + 31) + 3) (x1 : Int32).toNatClampNeg) : Int32).toInt64 * (((r18 * (I19 uo_1 2)) / 10) : Int32).toInt64) < (L20 (o + 61) ((I ((o + 31) + 1) (x1 : Int32).toNatClampNeg) : Int32).toNatClampNeg) then (((I ((o + 31) + 3) (x1 : Int32).toNatClampNeg) : Int32).toInt64 * (((r18 * (I19 uo_1 2)) / 10) : Int32).toInt64) else (L20 (o + 61) ((I ((o + 31) + 1) (x1 : Int32).toNatClampNeg) : Int32).toNatClampNeg)) : Int64) = y23 → vp_in (I ((o + 31) + 1) (x1 : Int32).toNatClampNeg) 6 ∧ ∀ L24 : Nat → Nat → Int64, q_u L20 (o + 61) ((I ((o + 31) + 1) (x1 : Int32).toNatClampNeg) : Int32).toNatClampNeg ((L20 (o + 61) ((I ((o + 31) + 1) (x1 : Int32).toNatClampNeg) : Int32).toNatClampNeg) - y23) = L24 → Ev (qGG D cA b E) mLoads_sendSalt 2 (0, 0) 0 (lv_args 0 [.ref ((o + 44)), .int ((I ((o + 31) + 1) (x1 : Int32).toNatClampNeg)), .int x3, .int ((I ((o + 31) + 3) (x1 : Int32).toNatClampNeg)), .int ((I19 o 17)), .int r18]) [] (n, sh, Rf, I19, L24) (fun v τ => ∃ (I28 : Nat → Nat → Int32) (L29 : Nat → Nat → Int64), v = none ∧ τ = (n, sh, Rf, I28, L29) ∧ post none (n, sh, Rf, I28, L29)))) ∧ ((I ((o + 31) + 1) (x1 : Int32).toNatClampNeg) = (-1) → fRun_drawPaper_95 D cA b E o n sh Rf I8 L12 post x1 x2 x3 (I ((o + 31) + 3) (x1 : Int32).toNatClampNeg) (I ((o + 31) + 1) (x1 : Int32).toNatClampNeg) uo_0 uo_1)))))
set_option maxHeartbeats 4000000 in
set_option maxRecDepth 20000 in
theorem sRun_drawPaper_0 {D : va_G} {cA : FieldType → ClassId} {b : Nat} {E : State → Prop} (o : Nat) (n : Nat) (sh : Nat → qC) (Rf : Nat → Nat → Option Nat) (I : Nat → Nat → Int32) (L : Nat → Nat → Int64) (post : Option Value → qS → Prop) (x1 : Int32) (x2 : Int32) (x3 : Int32) (uo_0 : Nat) (uo_1 : Nat) (hok : q_ok (qGG D cA b E)) (hw : WfRun (qGG D cA b E) n sh Rf o) (huo_0 : Rf o 0 = some uo_0) (hwuo_0 : WfLand (qGG D cA b E) n sh Rf uo_0) (huo_1 : Rf o 1 = some uo_1) (hwuo_1 : WfTrade (qGG D cA b E) n sh Rf uo_1) (H : fRun_drawPaper_0 D cA b E o n sh Rf I L post x1 x2 x3 uo_0 uo_1) : Ev (qGG D cA b E) mRun_drawPaper 3 (0, 0) 0 [(0, .ref o), (1, .int x1), (2, .int x2), (3, .int x3)] [] (n, sh, Rf, I, L) post := by
  unfold fRun_drawPaper_0 at H
  refine ev_aload_n dRun_drawPaper_0 rfl ?_
  refine ev_getR hok fk_Run_42 (woRun hw) (fun _ _ _ => rfl) (wrRun_4 hw) dRun_drawPaper_1 ?_
  refine ev_getR hok fk_Run_329 (woPapers (wsRun_4 hw)) (fun _ _ _ => rfl) (wrPapers_2 (wsRun_4 hw)) dRun_drawPaper_4 ?_
  refine ev_iload_n dRun_drawPaper_7 rfl ?_
  obtain ⟨h1, H⟩ := H
  refine ev_iald hok (waPapers_2 (wsRun_4 hw)) h1 dRun_drawPaper_8 ?_
  refine ev_istore dRun_drawPaper_9 (by decide) ?_
  refine ev_aload_n dRun_drawPaper_11 rfl ?_
  refine ev_getR hok fk_Run_42 (woRun hw) (fun _ _ _ => rfl) (wrRun_4 hw) dRun_drawPaper_12 ?_
  refine ev_getR hok fk_Run_349 (woPapers (wsRun_4 hw)) (fun _ _ _ => rfl) (wrPapers_0 (wsRun_4 hw)) dRun_drawPaper_15 ?_
  refine ev_iload_n dRun_drawPaper_18 rfl ?_
  obtain ⟨h2, H⟩ := H
  refine ev_iald hok (waPapers_0 (wsRun_4 hw)) h2 dRun_drawPaper_19 ?_
  refine ev_istore dRun_drawPaper_20 (by decide) ?_
  refine ev_aload_n dRun_drawPaper_22 rfl ?_
  refine ev_getR hok fk_Run_35 (woRun hw) (fun _ _ _ => rfl) (wrRun_3 hw) dRun_drawPaper_23 ?_
  refine ev_getR hok fk_Run_231 (woRealm (wsRun_3 hw)) (fun _ _ _ => rfl) (wrRealm_2 (wsRun_3 hw)) dRun_drawPaper_26 ?_
  refine ev_iload_n dRun_drawPaper_29 rfl ?_
  refine ev_dup2_11 dRun_drawPaper_30 rfl rfl ?_
  obtain ⟨h3, H⟩ := H
  refine ev_iald hok (waRealm_2 (wsRun_3 hw)) h3 dRun_drawPaper_31 ?_
  refine ev_iload dRun_drawPaper_32 rfl ?_
  refine ev_isub dRun_drawPaper_34 ?_
  obtain ⟨h5, H⟩ := H
  refine ev_iast hok (waRealm_2 (wsRun_3 hw)) h5 dRun_drawPaper_35 ?_
  generalize eI4 : q_u I ((o + 24) + 3) (x2 : Int32).toNatClampNeg ((I ((o + 24) + 3) (x2 : Int32).toNatClampNeg) - (I ((o + 31) + 3) (x1 : Int32).toNatClampNeg)) = I4
  have H := H I4 eI4
  refine ev_aload_n dRun_drawPaper_36 rfl ?_
  refine ev_getR hok fk_Run_42 (woRun hw) (fun _ _ _ => rfl) (wrRun_4 hw) dRun_drawPaper_37 ?_
  refine ev_iload_n dRun_drawPaper_40 rfl ?_
  refine ev_aload_n dRun_drawPaper_41 rfl ?_
  refine ev_getI hok fk_Run_98 (woRun hw) (fun _ _ _ => rfl) dRun_drawPaper_42 ?_
  refine ev_callV [.int x1, .int ((I4 o 17))] [] (B' := (0, 0)) (B'' := (0, 0)) hok mmPapers_draw mk_Run_352 (ci := 3) rfl rfl (woPapers (wsRun_4 hw)) rfl (Nat.le_of_ble_eq_true rfl) rfl (Nat.le_of_ble_eq_true rfl) dRun_drawPaper_45 rfl (by decide) H (fun v τ p6 => ?_)
  obtain ⟨I8, L9, rfl, rfl, H⟩ := p6
  refine ev_aload_n dRun_drawPaper_48 rfl ?_
  refine ev_getR hok fk_Run_87 (woRun hw) (fun _ _ _ => rfl) (wrRun_14 hw) dRun_drawPaper_49 ?_
  refine ev_bipush (9) dRun_drawPaper_52 (by decide) ?_
  refine ev_dup2_11 dRun_drawPaper_54 rfl rfl ?_
  refine ev_lald hok (waRun_14 hw) (by unfold vp_in; decide) dRun_drawPaper_55 ?_
  rw [show (9 : Int32).toNatClampNeg = 9 from rfl]
  refine ev_lconst 1 dRun_drawPaper_56 (by decide) ?_
  refine ev_ladd dRun_drawPaper_57 ?_
  refine ev_last hok (waRun_14 hw) (by unfold vp_in; decide) dRun_drawPaper_58 ?_
  rw [show (9 : Int32).toNatClampNeg = 9 from rfl]
  generalize eL10 : q_u L9 (o + 65) 9 ((L9 (o + 65) 9) + 1) = L10
  have H := H L10 eL10
  refine ev_aload_n dRun_drawPaper_59 rfl ?_
  refine ev_getR hok fk_Run_87 (woRun hw) (fun _ _ _ => rfl) (wrRun_14 hw) dRun_drawPaper_60 ?_
  refine ev_bipush (8) dRun_drawPaper_63 (by decide) ?_
  refine ev_dup2_11 dRun_drawPaper_65 rfl rfl ?_
  refine ev_lald hok (waRun_14 hw) (by unfold vp_in; decide) dRun_drawPaper_66 ?_
  rw [show (8 : Int32).toNatClampNeg = 8 from rfl]
  refine ev_aload_n dRun_drawPaper_67 rfl ?_
  refine ev_getI hok fk_Run_98 (woRun hw) (fun _ _ _ => rfl) dRun_drawPaper_68 ?_
  refine ev_aload_n dRun_drawPaper_71 rfl ?_
  refine ev_getR hok fk_Run_42 (woRun hw) (fun _ _ _ => rfl) (wrRun_4 hw) dRun_drawPaper_72 ?_
  refine ev_getR hok fk_Run_326 (woPapers (wsRun_4 hw)) (fun _ _ _ => rfl) (wrPapers_3 (wsRun_4 hw)) dRun_drawPaper_75 ?_
  refine ev_iload_n dRun_drawPaper_78 rfl ?_
  obtain ⟨h11, H⟩ := H
  refine ev_iald hok (waPapers_3 (wsRun_4 hw)) h11 dRun_drawPaper_79 ?_
  refine ev_isub dRun_drawPaper_80 ?_
  refine ev_i2l dRun_drawPaper_81 ?_
  refine ev_ladd dRun_drawPaper_82 ?_
  refine ev_last hok (waRun_14 hw) (by unfold vp_in; decide) dRun_drawPaper_83 ?_
  rw [show (8 : Int32).toNatClampNeg = 8 from rfl]
  generalize eL12 : q_u L10 (o + 65) 8 ((L10 (o + 65) 8) + (((I8 o 17) - (I8 ((o + 31) + 4) (x1 : Int32).toNatClampNeg)) : Int32).toInt64) = L12
  have H := H L12 eL12
  refine ev_iload_n dRun_drawPaper_84 rfl ?_
  refine ev_iconst (-1) dRun_drawPaper_85 (by decide) ?_
  refine ev_icmp_eq 95 dRun_drawPaper_86 (by decide) (fun c13 => ?_) (fun c13 => ?_)
  · have H := H.1 c13
    exact ev_sub [(0, .ref o), (1, .int x1), (2, .int x2), (3, .int x3), (4, .int ((I ((o + 31) + 3) (x1 : Int32).toNatClampNeg))), (5, .int ((I ((o + 31) + 1) (x1 : Int32).toNatClampNeg)))] rfl (sRun_drawPaper_95 o n sh Rf I8 L12 post x1 x2 x3 (I ((o + 31) + 3) (x1 : Int32).toNatClampNeg) (I ((o + 31) + 1) (x1 : Int32).toNatClampNeg) uo_0 uo_1 hok hw huo_0 hwuo_0 huo_1 hwuo_1 H)
  · have H := H.2 c13
    refine ev_iload dRun_drawPaper_89 rfl ?_
    refine ev_iconst (-1) dRun_drawPaper_91 (by decide) ?_
    refine ev_icmp_ne 108 dRun_drawPaper_92 (by decide) (fun c14 => ?_) (fun c14 => ?_)
    · have H := H.1 c14
      refine ev_aload_n dRun_drawPaper_108 rfl ?_
      refine ev_getR hok fk_Run_12 (woRun hw) (fun _ _ _ => rfl) huo_0 dRun_drawPaper_109 ?_
      refine ev_aload_n dRun_drawPaper_112 rfl ?_
      refine ev_getR hok fk_Run_12 (woRun hw) (fun _ _ _ => rfl) huo_0 dRun_drawPaper_113 ?_
      refine ev_getR hok fk_Run_355 (woLand hwuo_0) (fun _ _ _ => rfl) (wrLand_10 hwuo_0) dRun_drawPaper_116 ?_
      refine ev_iload_n dRun_drawPaper_119 rfl ?_
      obtain ⟨h15, H⟩ := H
      refine ev_iald hok (waLand_10 hwuo_0) h15 dRun_drawPaper_120 ?_
      refine ev_aload_n dRun_drawPaper_121 rfl ?_
      refine ev_getR hok fk_Run_12 (woRun hw) (fun _ _ _ => rfl) huo_0 dRun_drawPaper_122 ?_
      refine ev_getR hok fk_Run_358 (woLand hwuo_0) (fun _ _ _ => rfl) (wrLand_14 hwuo_0) dRun_drawPaper_125 ?_
      refine ev_iload_n dRun_drawPaper_128 rfl ?_
      obtain ⟨h16, H⟩ := H
      refine ev_iald hok (waLand_14 hwuo_0) h16 dRun_drawPaper_129 ?_
      refine ev_callV [.int ((I8 (uo_0 + 6) (x2 : Int32).toNatClampNeg)), .int ((I8 (uo_0 + 10) (x3 : Int32).toNatClampNeg))] [] (B' := (0, 0)) (B'' := (0, 0)) hok mmLand_daysBetween mk_Run_361 (ci := 1) rfl rfl (woLand hwuo_0) rfl (Nat.le_of_ble_eq_true rfl) rfl (Nat.le_of_ble_eq_true rfl) dRun_drawPaper_130 rfl (by decide) H (fun v τ p17 => ?_)
      obtain ⟨r18, I19, L20, rfl, rfl, H⟩ := p17
      refine ev_istore dRun_drawPaper_133 (by decide) ?_
      refine ev_iload dRun_drawPaper_135 rfl ?_
      refine ev_i2l dRun_drawPaper_137 ?_
      refine ev_iload dRun_drawPaper_138 rfl ?_
      refine ev_aload_n dRun_drawPaper_140 rfl ?_
      refine ev_getR hok fk_Run_21 (woRun hw) (fun _ _ _ => rfl) huo_1 dRun_drawPaper_141 ?_
      refine ev_getI hok fk_Run_364 (woTrade hwuo_1) (fun _ _ _ => rfl) dRun_drawPaper_144 ?_
      refine ev_imul dRun_drawPaper_147 ?_
      refine ev_bipush (10) dRun_drawPaper_148 (by decide) ?_
      refine ev_idiv dRun_drawPaper_150 (by decide) ?_
      refine ev_i2l dRun_drawPaper_151 ?_
      refine ev_lmul dRun_drawPaper_152 ?_
      refine ev_lstore dRun_drawPaper_153 (by decide) ?_
      refine ev_aload_n dRun_drawPaper_155 rfl ?_
      refine ev_getR hok fk_Run_74 (woRun hw) (fun _ _ _ => rfl) (wrRun_10 hw) dRun_drawPaper_156 ?_
      refine ev_iload dRun_drawPaper_159 rfl ?_
      refine ev_dup2_11 dRun_drawPaper_161 rfl rfl ?_
      obtain ⟨h21, H⟩ := H
      refine ev_lald hok (waRun_10 hw) h21 dRun_drawPaper_162 ?_
      refine ev_aload_n dRun_drawPaper_163 rfl ?_
      refine ev_getR hok fk_Run_74 (woRun hw) (fun _ _ _ => rfl) (wrRun_10 hw) dRun_drawPaper_164 ?_
      refine ev_iload dRun_drawPaper_167 rfl ?_
      obtain ⟨h22, H⟩ := H
      refine ev_lald hok (waRun_10 hw) h22 dRun_drawPaper_169 ?_
      refine ev_lload dRun_drawPaper_170 rfl ?_
      refine ev_mminl (by decide) (q_t6 32 (by decide +kernel) rfl) (q_t5 177 (by decide +kernel) rfl) (q_t1 19 (by decide +kernel) rfl) (q_t5 178 rfl rfl) (Nat.le_of_ble_eq_true rfl) dRun_drawPaper_172 ?_
      generalize ey23 : ((if (((I ((o + 31) + 3) (x1 : Int32).toNatClampNeg) : Int32).toInt64 * (((r18 * (I19 uo_1 2)) / 10) : Int32).toInt64) < (L20 (o + 61) ((I ((o + 31) + 1) (x1 : Int32).toNatClampNeg) : Int32).toNatClampNeg) then (((I ((o + 31) + 3) (x1 : Int32).toNatClampNeg) : Int32).toInt64 * (((r18 * (I19 uo_1 2)) / 10) : Int32).toInt64) else (L20 (o + 61) ((I ((o + 31) + 1) (x1 : Int32).toNatClampNeg) : Int32).toNatClampNeg)) : Int64) = y23
      have H := H y23 ey23
      refine ev_lsub dRun_drawPaper_175 ?_
      obtain ⟨h25, H⟩ := H
      refine ev_last hok (waRun_10 hw) h25 dRun_drawPaper_176 ?_
      generalize eL24 : q_u L20 (o + 61) ((I ((o + 31) + 1) (x1 : Int32).toNatClampNeg) : Int32).toNatClampNeg ((L20 (o + 61) ((I ((o + 31) + 1) (x1 : Int32).toNatClampNeg) : Int32).toNatClampNeg) - y23) = L24
      have H := H L24 eL24
      refine ev_aload_n dRun_drawPaper_177 rfl ?_
      refine ev_getR hok fk_Run_49 (woRun hw) (fun _ _ _ => rfl) (wrRun_5 hw) dRun_drawPaper_178 ?_
      refine ev_iload dRun_drawPaper_181 rfl ?_
      refine ev_iload_n dRun_drawPaper_183 rfl ?_
      refine ev_iload dRun_drawPaper_184 rfl ?_
      refine ev_aload_n dRun_drawPaper_186 rfl ?_
      refine ev_getI hok fk_Run_98 (woRun hw) (fun _ _ _ => rfl) dRun_drawPaper_187 ?_
      refine ev_iload dRun_drawPaper_190 rfl ?_
      refine ev_callV [.int ((I ((o + 31) + 1) (x1 : Int32).toNatClampNeg)), .int x3, .int ((I ((o + 31) + 3) (x1 : Int32).toNatClampNeg)), .int ((I19 o 17)), .int r18] [] (B' := (0, 0)) (B'' := (0, 0)) hok mmLoads_sendSalt mk_Run_370 (ci := 2) rfl rfl (woLoads (wsRun_5 hw)) rfl (Nat.le_of_ble_eq_true rfl) rfl (Nat.le_of_ble_eq_true rfl) dRun_drawPaper_192 rfl (by decide) H (fun v τ p26 => ?_)
      obtain ⟨I28, L29, rfl, rfl, H⟩ := p26
      exact ev_vret rfl dRun_drawPaper_195 H
    · have H := H.2 c14
      exact ev_sub [(0, .ref o), (1, .int x1), (2, .int x2), (3, .int x3), (4, .int ((I ((o + 31) + 3) (x1 : Int32).toNatClampNeg))), (5, .int ((I ((o + 31) + 1) (x1 : Int32).toNatClampNeg)))] rfl (sRun_drawPaper_95 o n sh Rf I8 L12 post x1 x2 x3 (I ((o + 31) + 3) (x1 : Int32).toNatClampNeg) (I ((o + 31) + 1) (x1 : Int32).toNatClampNeg) uo_0 uo_1 hok hw huo_0 hwuo_0 huo_1 hwuo_1 H)
def fRun_finish_0 (D : va_G) (cA : FieldType → ClassId) (b : Nat) (E : State → Prop) (o : Nat) (n : Nat) (sh : Nat → qC) (Rf : Nat → Nat → Option Nat) (I : Nat → Nat → Int32) (L : Nat → Nat → Int64) (post : Option Value → qS → Prop)  : Prop :=
  ∀ I1 : Nat → Nat → Int32, q_u I o 17 (I o 16) = I1 → Ev (qGG D cA b E) mRun_tellMonth 2 (0, 0) 0 (lv_args 0 [.ref o]) [] (n, sh, Rf, I1, L) (fun v τ => ∃ (I4 : Nat → Nat → Int32) (L5 : Nat → Nat → Int64), v = none ∧ τ = (n, sh, Rf, I4, L5) ∧ Ev (qGG D cA b E) mPapers_closeQueue 1 (0, 0) 0 (lv_args 0 [.ref ((o + 31))]) [] (n, sh, Rf, I4, L5) (fun v τ => ∃ (I8 : Nat → Nat → Int32) (L9 : Nat → Nat → Int64), v = none ∧ τ = (n, sh, Rf, I8, L9) ∧ ∀ L10 : Nat → Nat → Int64, q_u L9 (o + 65) 6 (((I8 (o + 31) 13) : Int32).toInt64) = L10 → ∀ L11 : Nat → Nat → Int64, q_u L10 (o + 65) 7 (((I8 (o + 31) 14) : Int32).toInt64) = L11 → ∀ L12 : Nat → Nat → Int64, q_u L11 (o + 65) 10 (((I8 o 16) : Int32).toInt64) = L12 → ∀ I13 : Nat → Nat → Int32, q_u I8 o 15 1 = I13 → post none (n, sh, Rf, I13, L12)))
set_option maxHeartbeats 4000000 in
set_option maxRecDepth 20000 in
theorem sRun_finish_0 {D : va_G} {cA : FieldType → ClassId} {b : Nat} {E : State → Prop} (o : Nat) (n : Nat) (sh : Nat → qC) (Rf : Nat → Nat → Option Nat) (I : Nat → Nat → Int32) (L : Nat → Nat → Int64) (post : Option Value → qS → Prop)  (hok : q_ok (qGG D cA b E)) (hw : WfRun (qGG D cA b E) n sh Rf o) (H : fRun_finish_0 D cA b E o n sh Rf I L post ) : Ev (qGG D cA b E) mRun_finish 3 (0, 0) 0 [(0, .ref o)] [] (n, sh, Rf, I, L) post := by
  unfold fRun_finish_0 at H
  refine ev_aload_n dRun_finish_0 rfl ?_
  refine ev_aload_n dRun_finish_1 rfl ?_
  refine ev_getI hok fk_Run_94 (woRun hw) (fun _ _ _ => rfl) dRun_finish_2 ?_
  refine ev_putI hok fk_Run_98 (woRun hw) (fun _ _ _ => rfl) rfl rfl dRun_finish_5 ?_
  generalize eI1 : q_u I o 17 (I o 16) = I1
  have H := H I1 eI1
  refine ev_aload_n dRun_finish_8 rfl ?_
  refine ev_callV [] [] (B' := (0, 0)) (B'' := (0, 0)) hok mmRun_tellMonth mk_Run_128 (ci := 7) rfl rfl (woRun hw) rfl (Nat.le_of_ble_eq_true rfl) rfl (Nat.le_of_ble_eq_true rfl) dRun_finish_9 rfl (by decide) H (fun v τ p2 => ?_)
  obtain ⟨I4, L5, rfl, rfl, H⟩ := p2
  refine ev_aload_n dRun_finish_12 rfl ?_
  refine ev_getR hok fk_Run_42 (woRun hw) (fun _ _ _ => rfl) (wrRun_4 hw) dRun_finish_13 ?_
  refine ev_callV [] [] (B' := (0, 0)) (B'' := (0, 0)) hok mmPapers_closeQueue mk_Run_200 (ci := 3) rfl rfl (woPapers (wsRun_4 hw)) rfl (Nat.le_of_ble_eq_true rfl) rfl (Nat.le_of_ble_eq_true rfl) dRun_finish_16 rfl (by decide) H (fun v τ p6 => ?_)
  obtain ⟨I8, L9, rfl, rfl, H⟩ := p6
  refine ev_aload_n dRun_finish_19 rfl ?_
  refine ev_getR hok fk_Run_87 (woRun hw) (fun _ _ _ => rfl) (wrRun_14 hw) dRun_finish_20 ?_
  refine ev_bipush (6) dRun_finish_23 (by decide) ?_
  refine ev_aload_n dRun_finish_25 rfl ?_
  refine ev_getR hok fk_Run_42 (woRun hw) (fun _ _ _ => rfl) (wrRun_4 hw) dRun_finish_26 ?_
  refine ev_getI hok fk_Run_203 (woPapers (wsRun_4 hw)) (fun _ _ _ => rfl) dRun_finish_29 ?_
  refine ev_i2l dRun_finish_32 ?_
  refine ev_last hok (waRun_14 hw) (by unfold vp_in; decide) dRun_finish_33 ?_
  rw [show (6 : Int32).toNatClampNeg = 6 from rfl]
  generalize eL10 : q_u L9 (o + 65) 6 (((I8 (o + 31) 13) : Int32).toInt64) = L10
  have H := H L10 eL10
  refine ev_aload_n dRun_finish_34 rfl ?_
  refine ev_getR hok fk_Run_87 (woRun hw) (fun _ _ _ => rfl) (wrRun_14 hw) dRun_finish_35 ?_
  refine ev_bipush (7) dRun_finish_38 (by decide) ?_
  refine ev_aload_n dRun_finish_40 rfl ?_
  refine ev_getR hok fk_Run_42 (woRun hw) (fun _ _ _ => rfl) (wrRun_4 hw) dRun_finish_41 ?_
  refine ev_getI hok fk_Run_206 (woPapers (wsRun_4 hw)) (fun _ _ _ => rfl) dRun_finish_44 ?_
  refine ev_i2l dRun_finish_47 ?_
  refine ev_last hok (waRun_14 hw) (by unfold vp_in; decide) dRun_finish_48 ?_
  rw [show (7 : Int32).toNatClampNeg = 7 from rfl]
  generalize eL11 : q_u L10 (o + 65) 7 (((I8 (o + 31) 14) : Int32).toInt64) = L11
  have H := H L11 eL11
  refine ev_aload_n dRun_finish_49 rfl ?_
  refine ev_getR hok fk_Run_87 (woRun hw) (fun _ _ _ => rfl) (wrRun_14 hw) dRun_finish_50 ?_
  refine ev_bipush (10) dRun_finish_53 (by decide) ?_
  refine ev_aload_n dRun_finish_55 rfl ?_
  refine ev_getI hok fk_Run_94 (woRun hw) (fun _ _ _ => rfl) dRun_finish_56 ?_
  refine ev_i2l dRun_finish_59 ?_
  refine ev_last hok (waRun_14 hw) (by unfold vp_in; decide) dRun_finish_60 ?_
  rw [show (10 : Int32).toNatClampNeg = 10 from rfl]
  generalize eL12 : q_u L11 (o + 65) 10 (((I8 o 16) : Int32).toInt64) = L12
  have H := H L12 eL12
  refine ev_aload_n dRun_finish_61 rfl ?_
  refine ev_iconst (1) dRun_finish_62 (by decide) ?_
  refine ev_putI hok fk_Run_90 (woRun hw) (fun _ _ _ => rfl) (q_bz (Or.inr rfl)) (q_bf (Or.inr rfl)) dRun_finish_63 ?_
  generalize eI13 : q_u I8 o 15 1 = I13
  have H := H I13 eI13
  exact ev_vret rfl dRun_finish_66 H
def fRun_smuggleAll_66 (D : va_G) (cA : FieldType → ClassId) (b : Nat) (E : State → Prop) (o : Nat) (n : Nat) (sh : Nat → qC) (Rf : Nat → Nat → Option Nat) (I : Nat → Nat → Int32) (L : Nat → Nat → Int64) (post : Option Value → qS → Prop) (x1 : Int32) (x2 : Int32) (uo_0 : Nat) : Prop :=
  Ev (qGG D cA b E) mRun_smuggleAll 3 (0, 0) 28 [(0, .ref o), (1, .int x1), (2, .int ((x2 + Int32.ofInt 1)))] [] (n, sh, Rf, I, L) post
set_option maxHeartbeats 4000000 in
set_option maxRecDepth 20000 in
theorem sRun_smuggleAll_66 {D : va_G} {cA : FieldType → ClassId} {b : Nat} {E : State → Prop} (o : Nat) (n : Nat) (sh : Nat → qC) (Rf : Nat → Nat → Option Nat) (I : Nat → Nat → Int32) (L : Nat → Nat → Int64) (post : Option Value → qS → Prop) (x1 : Int32) (x2 : Int32) (uo_0 : Nat) (hok : q_ok (qGG D cA b E)) (hw : WfRun (qGG D cA b E) n sh Rf o) (huo_0 : Rf o 0 = some uo_0) (hwuo_0 : WfLand (qGG D cA b E) n sh Rf uo_0) (H : fRun_smuggleAll_66 D cA b E o n sh Rf I L post x1 x2 uo_0) : Ev (qGG D cA b E) mRun_smuggleAll 3 (0, 0) 66 [(0, .ref o), (1, .int x1), (2, .int x2)] [] (n, sh, Rf, I, L) post := by
  unfold fRun_smuggleAll_66 at H
  refine ev_iinc dRun_smuggleAll_66 rfl (by decide) ?_
  refine ev_goto 28 dRun_smuggleAll_69 (by decide) ?_
  exact ev_sub [(0, .ref o), (1, .int x1), (2, .int ((x2 + Int32.ofInt 1)))] rfl H
def fRun_smuggleAll_28 (D : va_G) (cA : FieldType → ClassId) (b : Nat) (E : State → Prop) (o : Nat) (n : Nat) (sh : Nat → qC) (Rf : Nat → Nat → Option Nat) (I : Nat → Nat → Int32) (L : Nat → Nat → Int64) (post : Option Value → qS → Prop) (x1 : Int32) (x2 : Int32) (uo_0 : Nat) : Prop :=
  (((I uo_0 3) ≤ x2 → Ev (qGG D cA b E) mRun_smuggleAll 3 (0, 0) 13 [(0, .ref o), (1, .int ((x1 + Int32.ofInt 1)))] [] (n, sh, Rf, I, L) post) ∧ (¬ (I uo_0 3) ≤ x2 → vp_in x1 5 ∧ vp_in x2 5 ∧ (((I (uo_0 + 11) (x1 : Int32).toNatClampNeg) = (I (uo_0 + 11) (x2 : Int32).toNatClampNeg) → fRun_smuggleAll_66 D cA b E o n sh Rf I L post x1 x2 uo_0) ∧ (¬ (I (uo_0 + 11) (x1 : Int32).toNatClampNeg) = (I (uo_0 + 11) (x2 : Int32).toNatClampNeg) → Ev (qGG D cA b E) mRun_smuggleBetween 2 (0, 0) 0 (lv_args 0 [.ref o, .int x1, .int x2]) [] (n, sh, Rf, I, L) (fun v τ => ∃ (I7 : Nat → Nat → Int32) (L8 : Nat → Nat → Int64), v = none ∧ τ = (n, sh, Rf, I7, L8) ∧ fRun_smuggleAll_66 D cA b E o n sh Rf I7 L8 post x1 x2 uo_0)))))
set_option maxHeartbeats 4000000 in
set_option maxRecDepth 20000 in
theorem sRun_smuggleAll_28 {D : va_G} {cA : FieldType → ClassId} {b : Nat} {E : State → Prop} (o : Nat) (n : Nat) (sh : Nat → qC) (Rf : Nat → Nat → Option Nat) (I : Nat → Nat → Int32) (L : Nat → Nat → Int64) (post : Option Value → qS → Prop) (x1 : Int32) (x2 : Int32) (uo_0 : Nat) (hok : q_ok (qGG D cA b E)) (hw : WfRun (qGG D cA b E) n sh Rf o) (huo_0 : Rf o 0 = some uo_0) (hwuo_0 : WfLand (qGG D cA b E) n sh Rf uo_0) (H : fRun_smuggleAll_28 D cA b E o n sh Rf I L post x1 x2 uo_0) : Ev (qGG D cA b E) mRun_smuggleAll 3 (0, 0) 28 [(0, .ref o), (1, .int x1), (2, .int x2)] [] (n, sh, Rf, I, L) post := by
  unfold fRun_smuggleAll_28 at H
  refine ev_iload_n dRun_smuggleAll_28 rfl ?_
  refine ev_aload_n dRun_smuggleAll_29 rfl ?_
  refine ev_getR hok fk_Run_12 (woRun hw) (fun _ _ _ => rfl) huo_0 dRun_smuggleAll_30 ?_
  refine ev_getI hok fk_Run_374 (woLand hwuo_0) (fun _ _ _ => rfl) dRun_smuggleAll_33 ?_
  refine ev_icmp_ge 72 dRun_smuggleAll_36 (by decide) (fun c1 => ?_) (fun c1 => ?_)
  · have H := H.1 c1
    refine ev_iinc dRun_smuggleAll_72 rfl (by decide) ?_
    refine ev_goto 13 dRun_smuggleAll_75 (by decide) ?_
    exact ev_sub [(0, .ref o), (1, .int ((x1 + Int32.ofInt 1)))] rfl H
  · have H := H.2 c1
    refine ev_aload_n dRun_smuggleAll_39 rfl ?_
    refine ev_getR hok fk_Run_12 (woRun hw) (fun _ _ _ => rfl) huo_0 dRun_smuggleAll_40 ?_
    refine ev_getR hok fk_Run_377 (woLand hwuo_0) (fun _ _ _ => rfl) (wrLand_15 hwuo_0) dRun_smuggleAll_43 ?_
    refine ev_iload_n dRun_smuggleAll_46 rfl ?_
    obtain ⟨h2, H⟩ := H
    refine ev_iald hok (waLand_15 hwuo_0) h2 dRun_smuggleAll_47 ?_
    refine ev_aload_n dRun_smuggleAll_48 rfl ?_
    refine ev_getR hok fk_Run_12 (woRun hw) (fun _ _ _ => rfl) huo_0 dRun_smuggleAll_49 ?_
    refine ev_getR hok fk_Run_377 (woLand hwuo_0) (fun _ _ _ => rfl) (wrLand_15 hwuo_0) dRun_smuggleAll_52 ?_
    refine ev_iload_n dRun_smuggleAll_55 rfl ?_
    obtain ⟨h3, H⟩ := H
    refine ev_iald hok (waLand_15 hwuo_0) h3 dRun_smuggleAll_56 ?_
    refine ev_icmp_eq 66 dRun_smuggleAll_57 (by decide) (fun c4 => ?_) (fun c4 => ?_)
    · have H := H.1 c4
      exact ev_sub [(0, .ref o), (1, .int x1), (2, .int x2)] rfl (sRun_smuggleAll_66 o n sh Rf I L post x1 x2 uo_0 hok hw huo_0 hwuo_0 H)
    · have H := H.2 c4
      refine ev_aload_n dRun_smuggleAll_60 rfl ?_
      refine ev_iload_n dRun_smuggleAll_61 rfl ?_
      refine ev_iload_n dRun_smuggleAll_62 rfl ?_
      refine ev_callV [.int x1, .int x2] [] (B' := (0, 0)) (B'' := (0, 0)) hok mmRun_smuggleBetween mk_Run_459 (ci := 7) rfl rfl (woRun hw) rfl (Nat.le_of_ble_eq_true rfl) rfl (Nat.le_of_ble_eq_true rfl) dRun_smuggleAll_63 rfl (by decide) H (fun v τ p5 => ?_)
      obtain ⟨I7, L8, rfl, rfl, H⟩ := p5
      exact ev_sub [(0, .ref o), (1, .int x1), (2, .int x2)] rfl (sRun_smuggleAll_66 o n sh Rf I7 L8 post x1 x2 uo_0 hok hw huo_0 hwuo_0 H)
def fRun_smuggleAll_13 (D : va_G) (cA : FieldType → ClassId) (b : Nat) (E : State → Prop) (o : Nat) (n : Nat) (sh : Nat → qC) (Rf : Nat → Nat → Option Nat) (I : Nat → Nat → Int32) (L : Nat → Nat → Int64) (post : Option Value → qS → Prop) (x1 : Int32) (uo_0 : Nat) : Prop :=
  (((I uo_0 3) ≤ x1 → post none (n, sh, Rf, I, L)) ∧ (¬ (I uo_0 3) ≤ x1 → Ev (qGG D cA b E) mRun_smuggleAll 3 (0, 0) 28 [(0, .ref o), (1, .int x1), (2, .int ((x1 + 1)))] [] (n, sh, Rf, I, L) post))
set_option maxHeartbeats 4000000 in
set_option maxRecDepth 20000 in
theorem sRun_smuggleAll_13 {D : va_G} {cA : FieldType → ClassId} {b : Nat} {E : State → Prop} (o : Nat) (n : Nat) (sh : Nat → qC) (Rf : Nat → Nat → Option Nat) (I : Nat → Nat → Int32) (L : Nat → Nat → Int64) (post : Option Value → qS → Prop) (x1 : Int32) (uo_0 : Nat) (hok : q_ok (qGG D cA b E)) (hw : WfRun (qGG D cA b E) n sh Rf o) (huo_0 : Rf o 0 = some uo_0) (hwuo_0 : WfLand (qGG D cA b E) n sh Rf uo_0) (H : fRun_smuggleAll_13 D cA b E o n sh Rf I L post x1 uo_0) : Ev (qGG D cA b E) mRun_smuggleAll 3 (0, 0) 13 [(0, .ref o), (1, .int x1)] [] (n, sh, Rf, I, L) post := by
  unfold fRun_smuggleAll_13 at H
  refine ev_iload_n dRun_smuggleAll_13 rfl ?_
  refine ev_aload_n dRun_smuggleAll_14 rfl ?_
  refine ev_getR hok fk_Run_12 (woRun hw) (fun _ _ _ => rfl) huo_0 dRun_smuggleAll_15 ?_
  refine ev_getI hok fk_Run_374 (woLand hwuo_0) (fun _ _ _ => rfl) dRun_smuggleAll_18 ?_
  refine ev_icmp_ge 78 dRun_smuggleAll_21 (by decide) (fun c1 => ?_) (fun c1 => ?_)
  · have H := H.1 c1
    exact ev_vret rfl dRun_smuggleAll_78 H
  · have H := H.2 c1
    refine ev_iload_n dRun_smuggleAll_24 rfl ?_
    refine ev_iconst (1) dRun_smuggleAll_25 (by decide) ?_
    refine ev_iadd dRun_smuggleAll_26 ?_
    refine ev_istore_n dRun_smuggleAll_27 (by decide) ?_
    exact ev_sub [(0, .ref o), (1, .int x1), (2, .int ((x1 + 1)))] rfl H
def fRun_smuggleAll_0 (D : va_G) (cA : FieldType → ClassId) (b : Nat) (E : State → Prop) (o : Nat) (n : Nat) (sh : Nat → qC) (Rf : Nat → Nat → Option Nat) (I : Nat → Nat → Int32) (L : Nat → Nat → Int64) (post : Option Value → qS → Prop) (uo_0 : Nat) : Prop :=
  Ev (qGG D cA b E) mArrays_fill_53178 0 (0, 0) 0 (lv_args 0 [.ref (((o + 24) + 5)), .int 0]) [] (n, sh, Rf, I, L) (fun v τ => ∃ (I3 : Nat → Nat → Int32) (L4 : Nat → Nat → Int64), v = none ∧ τ = (n, sh, Rf, I3, L4) ∧ Ev (qGG D cA b E) mRun_smuggleAll 3 (0, 0) 13 [(0, .ref o), (1, .int 0)] [] (n, sh, Rf, I3, L4) post)
set_option maxHeartbeats 4000000 in
set_option maxRecDepth 20000 in
theorem sRun_smuggleAll_0 {D : va_G} {cA : FieldType → ClassId} {b : Nat} {E : State → Prop} (o : Nat) (n : Nat) (sh : Nat → qC) (Rf : Nat → Nat → Option Nat) (I : Nat → Nat → Int32) (L : Nat → Nat → Int64) (post : Option Value → qS → Prop) (uo_0 : Nat) (hok : q_ok (qGG D cA b E)) (hw : WfRun (qGG D cA b E) n sh Rf o) (huo_0 : Rf o 0 = some uo_0) (hwuo_0 : WfLand (qGG D cA b E) n sh Rf uo_0) (H : fRun_smuggleAll_0 D cA b E o n sh Rf I L post uo_0) : Ev (qGG D cA b E) mRun_smuggleAll 3 (0, 0) 0 [(0, .ref o)] [] (n, sh, Rf, I, L) post := by
  unfold fRun_smuggleAll_0 at H
  refine ev_aload_n dRun_smuggleAll_0 rfl ?_
  refine ev_getR hok fk_Run_35 (woRun hw) (fun _ _ _ => rfl) (wrRun_3 hw) dRun_smuggleAll_1 ?_
  refine ev_getR hok fk_Run_456 (woRealm (wsRun_3 hw)) (fun _ _ _ => rfl) (wrRealm_4 (wsRun_3 hw)) dRun_smuggleAll_4 ?_
  refine ev_iconst (0) dRun_smuggleAll_7 (by decide) ?_
  refine ev_callS [.ref (((o + 24) + 5)), .int 0] [] (B' := (0, 0)) (B'' := (0, 0)) hok mmArrays_fill_53178 mk_Run_171 rfl (Nat.le_of_ble_eq_true rfl) rfl (Nat.le_of_ble_eq_true rfl) dRun_smuggleAll_8 rfl (by decide) H (fun v τ p1 => ?_)
  obtain ⟨I3, L4, rfl, rfl, H⟩ := p1
  refine ev_iconst (0) dRun_smuggleAll_11 (by decide) ?_
  refine ev_istore_n dRun_smuggleAll_12 (by decide) ?_
  exact ev_sub [(0, .ref o), (1, .int 0)] rfl H
def fRun_townFor_103 (D : va_G) (cA : FieldType → ClassId) (b : Nat) (E : State → Prop) (o : Nat) (n : Nat) (sh : Nat → qC) (Rf : Nat → Nat → Option Nat) (I : Nat → Nat → Int32) (L : Nat → Nat → Int64) (post : Option Value → qS → Prop) (x1 : Int32) (x2 : Int32) (x3 : Int32) (x4 : Int32) (uo_0 : Nat) : Prop :=
  Ev (qGG D cA b E) mRun_townFor 3 (0, 0) 11 [(0, .ref o), (1, .int x1), (2, .int x2), (3, .int ((x3 + Int32.ofInt 1)))] [] (n, sh, Rf, I, L) post
set_option maxHeartbeats 4000000 in
set_option maxRecDepth 20000 in
theorem sRun_townFor_103 {D : va_G} {cA : FieldType → ClassId} {b : Nat} {E : State → Prop} (o : Nat) (n : Nat) (sh : Nat → qC) (Rf : Nat → Nat → Option Nat) (I : Nat → Nat → Int32) (L : Nat → Nat → Int64) (post : Option Value → qS → Prop) (x1 : Int32) (x2 : Int32) (x3 : Int32) (x4 : Int32) (uo_0 : Nat) (hok : q_ok (qGG D cA b E)) (hw : WfRun (qGG D cA b E) n sh Rf o) (huo_0 : Rf o 0 = some uo_0) (hwuo_0 : WfLand (qGG D cA b E) n sh Rf uo_0) (H : fRun_townFor_103 D cA b E o n sh Rf I L post x1 x2 x3 x4 uo_0) : Ev (qGG D cA b E) mRun_townFor 3 (0, 0) 103 [(0, .ref o), (1, .int x1), (2, .int x2), (3, .int x3), (4, .int x4)] [] (n, sh, Rf, I, L) post := by
  unfold fRun_townFor_103 at H
  refine ev_iinc dRun_townFor_103 rfl (by decide) ?_
  refine ev_goto 11 dRun_townFor_106 (by decide) ?_
  exact ev_sub [(0, .ref o), (1, .int x1), (2, .int x2), (3, .int ((x3 + Int32.ofInt 1)))] rfl H
def fRun_townFor_11 (D : va_G) (cA : FieldType → ClassId) (b : Nat) (E : State → Prop) (o : Nat) (n : Nat) (sh : Nat → qC) (Rf : Nat → Nat → Option Nat) (I : Nat → Nat → Int32) (L : Nat → Nat → Int64) (post : Option Value → qS → Prop) (x1 : Int32) (x2 : Int32) (x3 : Int32) (uo_0 : Nat) : Prop :=
  (((I uo_0 3) ≤ x3 → post (some (.int x2)) (n, sh, Rf, I, L)) ∧ (¬ (I uo_0 3) ≤ x3 → vp_in x1 3 ∧ vp_in x3 5 ∧ Ev (qGG D cA b E) mLand_daysBetween 0 (0, 0) 0 (lv_args 0 [.ref uo_0, .int ((I (uo_0 + 6) (x1 : Int32).toNatClampNeg)), .int ((I (uo_0 + 10) (x3 : Int32).toNatClampNeg))]) [] (n, sh, Rf, I, L) (fun v τ => ∃ (r5 : Int32) (I6 : Nat → Nat → Int32) (L7 : Nat → Nat → Int64), v = some (.int r5) ∧ τ = (n, sh, Rf, I6, L7) ∧ ((r5 = (-1) → fRun_townFor_103 D cA b E o n sh Rf I6 L7 post x1 x2 x3 r5 uo_0) ∧ (¬ r5 = (-1) → vp_in x3 5 ∧ Ev (qGG D cA b E) mLand_serves 0 (0, 0) 0 (lv_args 0 [.ref uo_0, .int x1, .int ((I6 (uo_0 + 11) (x3 : Int32).toNatClampNeg))]) [] (n, sh, Rf, I6, L7) (fun v τ => ∃ (r11 : Int32) (I12 : Nat → Nat → Int32) (L13 : Nat → Nat → Int64), v = some (.int r11) ∧ τ = (n, sh, Rf, I12, L13) ∧ ((r11 = 0 → fRun_townFor_103 D cA b E o n sh Rf I12 L13 post x1 x2 x3 r5 uo_0) ∧ (¬ r11 = 0 → Ev (qGG D cA b E) mRun_worthIn 2 (0, 0) 0 (lv_args 0 [.ref o, .int x1, .int x3, .int r5]) [] (n, sh, Rf, I12, L13) (fun v τ => ∃ (r16 : Int64) (I17 : Nat → Nat → Int32) (L18 : Nat → Nat → Int64), v = some (.long r16) ∧ τ = (n, sh, Rf, I17, L18) ∧ (((lg_cmp r16 (L18 o 19)) ≤ 0 → fRun_townFor_103 D cA b E o n sh Rf I17 L18 post x1 x2 x3 r5 uo_0) ∧ (¬ (lg_cmp r16 (L18 o 19)) ≤ 0 → ∀ L20 : Nat → Nat → Int64, q_u L18 o 19 r16 = L20 → fRun_townFor_103 D cA b E o n sh Rf I17 L20 post x1 x3 x3 r5 uo_0)))))))))))
set_option maxHeartbeats 4000000 in
set_option maxRecDepth 20000 in
theorem sRun_townFor_11 {D : va_G} {cA : FieldType → ClassId} {b : Nat} {E : State → Prop} (o : Nat) (n : Nat) (sh : Nat → qC) (Rf : Nat → Nat → Option Nat) (I : Nat → Nat → Int32) (L : Nat → Nat → Int64) (post : Option Value → qS → Prop) (x1 : Int32) (x2 : Int32) (x3 : Int32) (uo_0 : Nat) (hok : q_ok (qGG D cA b E)) (hw : WfRun (qGG D cA b E) n sh Rf o) (huo_0 : Rf o 0 = some uo_0) (hwuo_0 : WfLand (qGG D cA b E) n sh Rf uo_0) (H : fRun_townFor_11 D cA b E o n sh Rf I L post x1 x2 x3 uo_0) : Ev (qGG D cA b E) mRun_townFor 3 (0, 0) 11 [(0, .ref o), (1, .int x1), (2, .int x2), (3, .int x3)] [] (n, sh, Rf, I, L) post := by
  unfold fRun_townFor_11 at H
  refine ev_iload_n dRun_townFor_11 rfl ?_
  refine ev_aload_n dRun_townFor_12 rfl ?_
  refine ev_getR hok fk_Run_12 (woRun hw) (fun _ _ _ => rfl) huo_0 dRun_townFor_13 ?_
  refine ev_getI hok fk_Run_374 (woLand hwuo_0) (fun _ _ _ => rfl) dRun_townFor_16 ?_
  refine ev_icmp_ge 109 dRun_townFor_19 (by decide) (fun c1 => ?_) (fun c1 => ?_)
  · have H := H.1 c1
    refine ev_iload_n dRun_townFor_109 rfl ?_
    exact ev_iret rfl dRun_townFor_110 H
  · have H := H.2 c1
    refine ev_aload_n dRun_townFor_22 rfl ?_
    refine ev_getR hok fk_Run_12 (woRun hw) (fun _ _ _ => rfl) huo_0 dRun_townFor_23 ?_
    refine ev_aload_n dRun_townFor_26 rfl ?_
    refine ev_getR hok fk_Run_12 (woRun hw) (fun _ _ _ => rfl) huo_0 dRun_townFor_27 ?_
    refine ev_getR hok fk_Run_355 (woLand hwuo_0) (fun _ _ _ => rfl) (wrLand_10 hwuo_0) dRun_townFor_30 ?_
    refine ev_iload_n dRun_townFor_33 rfl ?_
    obtain ⟨h2, H⟩ := H
    refine ev_iald hok (waLand_10 hwuo_0) h2 dRun_townFor_34 ?_
    refine ev_aload_n dRun_townFor_35 rfl ?_
    refine ev_getR hok fk_Run_12 (woRun hw) (fun _ _ _ => rfl) huo_0 dRun_townFor_36 ?_
    refine ev_getR hok fk_Run_358 (woLand hwuo_0) (fun _ _ _ => rfl) (wrLand_14 hwuo_0) dRun_townFor_39 ?_
    refine ev_iload_n dRun_townFor_42 rfl ?_
    obtain ⟨h3, H⟩ := H
    refine ev_iald hok (waLand_14 hwuo_0) h3 dRun_townFor_43 ?_
    refine ev_callV [.int ((I (uo_0 + 6) (x1 : Int32).toNatClampNeg)), .int ((I (uo_0 + 10) (x3 : Int32).toNatClampNeg))] [] (B' := (0, 0)) (B'' := (0, 0)) hok mmLand_daysBetween mk_Run_361 (ci := 1) rfl rfl (woLand hwuo_0) rfl (Nat.le_of_ble_eq_true rfl) rfl (Nat.le_of_ble_eq_true rfl) dRun_townFor_44 rfl (by decide) H (fun v τ p4 => ?_)
    obtain ⟨r5, I6, L7, rfl, rfl, H⟩ := p4
    refine ev_istore dRun_townFor_47 (by decide) ?_
    refine ev_iload dRun_townFor_49 rfl ?_
    refine ev_iconst (-1) dRun_townFor_51 (by decide) ?_
    refine ev_icmp_eq 103 dRun_townFor_52 (by decide) (fun c8 => ?_) (fun c8 => ?_)
    · have H := H.1 c8
      exact ev_sub [(0, .ref o), (1, .int x1), (2, .int x2), (3, .int x3), (4, .int r5)] rfl (sRun_townFor_103 o n sh Rf I6 L7 post x1 x2 x3 r5 uo_0 hok hw huo_0 hwuo_0 H)
    · have H := H.2 c8
      refine ev_aload_n dRun_townFor_55 rfl ?_
      refine ev_getR hok fk_Run_12 (woRun hw) (fun _ _ _ => rfl) huo_0 dRun_townFor_56 ?_
      refine ev_iload_n dRun_townFor_59 rfl ?_
      refine ev_aload_n dRun_townFor_60 rfl ?_
      refine ev_getR hok fk_Run_12 (woRun hw) (fun _ _ _ => rfl) huo_0 dRun_townFor_61 ?_
      refine ev_getR hok fk_Run_377 (woLand hwuo_0) (fun _ _ _ => rfl) (wrLand_15 hwuo_0) dRun_townFor_64 ?_
      refine ev_iload_n dRun_townFor_67 rfl ?_
      obtain ⟨h9, H⟩ := H
      refine ev_iald hok (waLand_15 hwuo_0) h9 dRun_townFor_68 ?_
      refine ev_callV [.int x1, .int ((I6 (uo_0 + 11) (x3 : Int32).toNatClampNeg))] [] (B' := (0, 0)) (B'' := (0, 0)) hok mmLand_serves mk_Run_380 (ci := 1) rfl rfl (woLand hwuo_0) rfl (Nat.le_of_ble_eq_true rfl) rfl (Nat.le_of_ble_eq_true rfl) dRun_townFor_69 rfl (by decide) H (fun v τ p10 => ?_)
      obtain ⟨r11, I12, L13, rfl, rfl, H⟩ := p10
      refine ev_if_eq 103 dRun_townFor_72 (by decide) (fun c14 => ?_) (fun c14 => ?_)
      · have H := H.1 c14
        exact ev_sub [(0, .ref o), (1, .int x1), (2, .int x2), (3, .int x3), (4, .int r5)] rfl (sRun_townFor_103 o n sh Rf I12 L13 post x1 x2 x3 r5 uo_0 hok hw huo_0 hwuo_0 H)
      · have H := H.2 c14
        refine ev_aload_n dRun_townFor_75 rfl ?_
        refine ev_iload_n dRun_townFor_76 rfl ?_
        refine ev_iload_n dRun_townFor_77 rfl ?_
        refine ev_iload dRun_townFor_78 rfl ?_
        refine ev_callV [.int x1, .int x3, .int r5] [] (B' := (0, 0)) (B'' := (0, 0)) hok mmRun_worthIn mk_Run_384 (ci := 7) rfl rfl (woRun hw) rfl (Nat.le_of_ble_eq_true rfl) rfl (Nat.le_of_ble_eq_true rfl) dRun_townFor_80 rfl (by decide) H (fun v τ p15 => ?_)
        obtain ⟨r16, I17, L18, rfl, rfl, H⟩ := p15
        refine ev_lstore dRun_townFor_83 (by decide) ?_
        refine ev_lload dRun_townFor_85 rfl ?_
        refine ev_aload_n dRun_townFor_87 rfl ?_
        refine ev_getL hok fk_Run_106 (woRun hw) (fun _ _ _ => rfl) dRun_townFor_88 ?_
        refine ev_lcmp dRun_townFor_91 ?_
        refine ev_if_le 103 dRun_townFor_92 (by decide) (fun c19 => ?_) (fun c19 => ?_)
        · have H := H.1 c19
          exact ev_sub [(0, .ref o), (1, .int x1), (2, .int x2), (3, .int x3), (4, .int r5)] rfl (sRun_townFor_103 o n sh Rf I17 L18 post x1 x2 x3 r5 uo_0 hok hw huo_0 hwuo_0 H)
        · have H := H.2 c19
          refine ev_iload_n dRun_townFor_95 rfl ?_
          refine ev_istore_n dRun_townFor_96 (by decide) ?_
          refine ev_aload_n dRun_townFor_97 rfl ?_
          refine ev_lload dRun_townFor_98 rfl ?_
          refine ev_putL hok fk_Run_106 (woRun hw) (fun _ _ _ => rfl) rfl rfl dRun_townFor_100 ?_
          generalize eL20 : q_u L18 o 19 r16 = L20
          have H := H L20 eL20
          exact ev_sub [(0, .ref o), (1, .int x1), (2, .int x3), (3, .int x3), (4, .int r5)] rfl (sRun_townFor_103 o n sh Rf I17 L20 post x1 x3 x3 r5 uo_0 hok hw huo_0 hwuo_0 H)
def fRun_townFor_0 (D : va_G) (cA : FieldType → ClassId) (b : Nat) (E : State → Prop) (o : Nat) (n : Nat) (sh : Nat → qC) (Rf : Nat → Nat → Option Nat) (I : Nat → Nat → Int32) (L : Nat → Nat → Int64) (post : Option Value → qS → Prop) (x1 : Int32) (uo_0 : Nat) : Prop :=
  ∀ L1 : Nat → Nat → Int64, q_u L o 19 (-1000000000000) = L1 → Ev (qGG D cA b E) mRun_townFor 3 (0, 0) 11 [(0, .ref o), (1, .int x1), (2, .int ((-1))), (3, .int 0)] [] (n, sh, Rf, I, L1) post
set_option maxHeartbeats 4000000 in
set_option maxRecDepth 20000 in
theorem sRun_townFor_0 {D : va_G} {cA : FieldType → ClassId} {b : Nat} {E : State → Prop} (o : Nat) (n : Nat) (sh : Nat → qC) (Rf : Nat → Nat → Option Nat) (I : Nat → Nat → Int32) (L : Nat → Nat → Int64) (post : Option Value → qS → Prop) (x1 : Int32) (uo_0 : Nat) (hok : q_ok (qGG D cA b E)) (hw : WfRun (qGG D cA b E) n sh Rf o) (huo_0 : Rf o 0 = some uo_0) (hwuo_0 : WfLand (qGG D cA b E) n sh Rf uo_0) (H : fRun_townFor_0 D cA b E o n sh Rf I L post x1 uo_0) : Ev (qGG D cA b E) mRun_townFor 3 (0, 0) 0 [(0, .ref o), (1, .int x1)] [] (n, sh, Rf, I, L) post := by
  unfold fRun_townFor_0 at H
  refine ev_iconst (-1) dRun_townFor_0 (by decide) ?_
  refine ev_istore_n dRun_townFor_1 (by decide) ?_
  refine ev_aload_n dRun_townFor_2 rfl ?_
  refine ev_ldc2 (-1000000000000) dRun_townFor_3 (q_t3 106 (by decide +kernel) rfl) ?_
  refine ev_putL hok fk_Run_106 (woRun hw) (fun _ _ _ => rfl) rfl rfl dRun_townFor_6 ?_
  generalize eL1 : q_u L o 19 (-1000000000000) = L1
  have H := H L1 eL1
  refine ev_iconst (0) dRun_townFor_9 (by decide) ?_
  refine ev_istore_n dRun_townFor_10 (by decide) ?_
  exact ev_sub [(0, .ref o), (1, .int x1), (2, .int ((-1))), (3, .int 0)] rfl H
def fWay_weighCarrying_142 (D : va_G) (cA : FieldType → ClassId) (b : Nat) (E : State → Prop) (o : Nat) (n : Nat) (sh : Nat → qC) (Rf : Nat → Nat → Option Nat) (I : Nat → Nat → Int32) (L : Nat → Nat → Int64) (post : Option Value → qS → Prop) (x1 : Nat) (x2 : Int32) (x3 : Int32) (x4 : Int32) (x5 : Int32) (x6 : Int32) (x7 : Int32) (ux1_0 : Nat) : Prop :=
  Ev (qGG D cA b E) mWay_weighCarrying 3 (0, 0) 16 [(0, .ref o), (1, .ref x1), (2, .int x2), (3, .int x3), (4, .int ((x4 + Int32.ofInt 1)))] [] (n, sh, Rf, I, L) post
set_option maxHeartbeats 4000000 in
set_option maxRecDepth 20000 in
theorem sWay_weighCarrying_142 {D : va_G} {cA : FieldType → ClassId} {b : Nat} {E : State → Prop} (o : Nat) (n : Nat) (sh : Nat → qC) (Rf : Nat → Nat → Option Nat) (I : Nat → Nat → Int32) (L : Nat → Nat → Int64) (post : Option Value → qS → Prop) (x1 : Nat) (x2 : Int32) (x3 : Int32) (x4 : Int32) (x5 : Int32) (x6 : Int32) (x7 : Int32) (ux1_0 : Nat) (hok : q_ok (qGG D cA b E)) (hw : WfWay (qGG D cA b E) n sh Rf o) (hw1 : WfRun (qGG D cA b E) n sh Rf x1) (hux1_0 : Rf x1 0 = some ux1_0) (hwux1_0 : WfLand (qGG D cA b E) n sh Rf ux1_0) (H : fWay_weighCarrying_142 D cA b E o n sh Rf I L post x1 x2 x3 x4 x5 x6 x7 ux1_0) : Ev (qGG D cA b E) mWay_weighCarrying 3 (0, 0) 142 [(0, .ref o), (1, .ref x1), (2, .int x2), (3, .int x3), (4, .int x4), (5, .int x5), (6, .int x6), (7, .int x7)] [] (n, sh, Rf, I, L) post := by
  unfold fWay_weighCarrying_142 at H
  refine ev_iinc dWay_weighCarrying_142 rfl (by decide) ?_
  refine ev_goto 16 dWay_weighCarrying_145 (by decide) ?_
  exact ev_sub [(0, .ref o), (1, .ref x1), (2, .int x2), (3, .int x3), (4, .int ((x4 + Int32.ofInt 1)))] rfl H
def fWay_weighCarrying_16 (D : va_G) (cA : FieldType → ClassId) (b : Nat) (E : State → Prop) (o : Nat) (n : Nat) (sh : Nat → qC) (Rf : Nat → Nat → Option Nat) (I : Nat → Nat → Int32) (L : Nat → Nat → Int64) (post : Option Value → qS → Prop) (x1 : Nat) (x2 : Int32) (x3 : Int32) (x4 : Int32) (ux1_0 : Nat) : Prop :=
  (((I ux1_0 3) ≤ x4 → Ev (qGG D cA b E) mWay_weighCarrying 3 (0, 0) 2 [(0, .ref o), (1, .ref x1), (2, .int x2), (3, .int ((x3 + Int32.ofInt 1)))] [] (n, sh, Rf, I, L) post) ∧ (¬ (I ux1_0 3) ≤ x4 → vp_in x4 5 ∧ vp_in x3 3 ∧ Ev (qGG D cA b E) mLand_daysBetween 0 (0, 0) 0 (lv_args 0 [.ref ux1_0, .int ((I (ux1_0 + 10) (x4 : Int32).toNatClampNeg)), .int ((I (ux1_0 + 3) (x3 : Int32).toNatClampNeg))]) [] (n, sh, Rf, I, L) (fun v τ => ∃ (r5 : Int32) (I6 : Nat → Nat → Int32) (L7 : Nat → Nat → Int64), v = some (.int r5) ∧ τ = (n, sh, Rf, I6, L7) ∧ Ev (qGG D cA b E) mRun_carryingCost 0 (0, 0) 0 (lv_args 0 [.ref x1, .int x4, .int r5]) [] (n, sh, Rf, I6, L7) (fun v τ => ∃ (r9 : Int32) (I10 : Nat → Nat → Int32) (L11 : Nat → Nat → Int64), v = some (.int r9) ∧ τ = (n, sh, Rf, I10, L11) ∧ Ev (qGG D cA b E) mWay_affordable 1 (0, 0) 0 (lv_args 0 [.ref x1, .int x2, .int r9]) [] (n, sh, Rf, I10, L11) (fun v τ => ∃ (r13 : Int32) (I14 : Nat → Nat → Int32) (L15 : Nat → Nat → Int64), v = some (.int r13) ∧ τ = (n, sh, Rf, I14, L15) ∧ vp_in x4 5 ∧ ∀ y17 : Int32, ((if ((I14 ((x1 + 24) + 6) (x4 : Int32).toNatClampNeg) / 10) < r13 then ((I14 ((x1 + 24) + 6) (x4 : Int32).toNatClampNeg) / 10) else r13) : Int32) = y17 → ((r5 = (-1) → fWay_weighCarrying_142 D cA b E o n sh Rf I14 L15 post x1 x2 x3 x4 r5 r9 y17 ux1_0) ∧ (¬ r5 = (-1) → ((y17 ≤ 0 → fWay_weighCarrying_142 D cA b E o n sh Rf I14 L15 post x1 x2 x3 x4 r5 r9 y17 ux1_0) ∧ (¬ y17 ≤ 0 → Ev (qGG D cA b E) mRun_rateAt 2 (0, 0) 0 (lv_args 0 [.ref x1, .int x3, .int r5]) [] (n, sh, Rf, I14, L15) (fun v τ => ∃ (r21 : Int32) (I22 : Nat → Nat → Int32) (L23 : Nat → Nat → Int64), v = some (.int r21) ∧ τ = (n, sh, Rf, I22, L23) ∧ Ev (qGG D cA b E) mWay_weigh 0 (0, 0) 0 (lv_args 0 [.ref o, .int 1, .int x3, .int x4, .int y17, .int ((y17 * r21)), .long (((y17 : Int32).toInt64 * (((r21 : Int32).toInt64 * (L23 o 7)) - (r9 : Int32).toInt64)))]) [] (n, sh, Rf, I22, L23) (fun v τ => ∃ (I26 : Nat → Nat → Int32) (L27 : Nat → Nat → Int64), v = none ∧ τ = (n, sh, Rf, I26, L27) ∧ fWay_weighCarrying_142 D cA b E o n sh Rf I26 L27 post x1 x2 x3 x4 r5 r9 y17 ux1_0)))))))))))
set_option maxHeartbeats 4000000 in
set_option maxRecDepth 20000 in
theorem sWay_weighCarrying_16 {D : va_G} {cA : FieldType → ClassId} {b : Nat} {E : State → Prop} (o : Nat) (n : Nat) (sh : Nat → qC) (Rf : Nat → Nat → Option Nat) (I : Nat → Nat → Int32) (L : Nat → Nat → Int64) (post : Option Value → qS → Prop) (x1 : Nat) (x2 : Int32) (x3 : Int32) (x4 : Int32) (ux1_0 : Nat) (hok : q_ok (qGG D cA b E)) (hw : WfWay (qGG D cA b E) n sh Rf o) (hw1 : WfRun (qGG D cA b E) n sh Rf x1) (hux1_0 : Rf x1 0 = some ux1_0) (hwux1_0 : WfLand (qGG D cA b E) n sh Rf ux1_0) (H : fWay_weighCarrying_16 D cA b E o n sh Rf I L post x1 x2 x3 x4 ux1_0) : Ev (qGG D cA b E) mWay_weighCarrying 3 (0, 0) 16 [(0, .ref o), (1, .ref x1), (2, .int x2), (3, .int x3), (4, .int x4)] [] (n, sh, Rf, I, L) post := by
  unfold fWay_weighCarrying_16 at H
  refine ev_iload dWay_weighCarrying_16 rfl ?_
  refine ev_aload_n dWay_weighCarrying_18 rfl ?_
  refine ev_getR hok fk_Way_39 (woRun hw1) (fun _ _ _ => rfl) hux1_0 dWay_weighCarrying_19 ?_
  refine ev_getI hok fk_Way_92 (woLand hwux1_0) (fun _ _ _ => rfl) dWay_weighCarrying_22 ?_
  refine ev_icmp_ge 148 dWay_weighCarrying_25 (by decide) (fun c1 => ?_) (fun c1 => ?_)
  · have H := H.1 c1
    refine ev_iinc dWay_weighCarrying_148 rfl (by decide) ?_
    refine ev_goto 2 dWay_weighCarrying_151 (by decide) ?_
    exact ev_sub [(0, .ref o), (1, .ref x1), (2, .int x2), (3, .int ((x3 + Int32.ofInt 1)))] rfl H
  · have H := H.2 c1
    refine ev_aload_n dWay_weighCarrying_28 rfl ?_
    refine ev_getR hok fk_Way_39 (woRun hw1) (fun _ _ _ => rfl) hux1_0 dWay_weighCarrying_29 ?_
    refine ev_aload_n dWay_weighCarrying_32 rfl ?_
    refine ev_getR hok fk_Way_39 (woRun hw1) (fun _ _ _ => rfl) hux1_0 dWay_weighCarrying_33 ?_
    refine ev_getR hok fk_Way_95 (woLand hwux1_0) (fun _ _ _ => rfl) (wrLand_14 hwux1_0) dWay_weighCarrying_36 ?_
    refine ev_iload dWay_weighCarrying_39 rfl ?_
    obtain ⟨h2, H⟩ := H
    refine ev_iald hok (waLand_14 hwux1_0) h2 dWay_weighCarrying_41 ?_
    refine ev_aload_n dWay_weighCarrying_42 rfl ?_
    refine ev_getR hok fk_Way_39 (woRun hw1) (fun _ _ _ => rfl) hux1_0 dWay_weighCarrying_43 ?_
    refine ev_getR hok fk_Way_99 (woLand hwux1_0) (fun _ _ _ => rfl) (wrLand_7 hwux1_0) dWay_weighCarrying_46 ?_
    refine ev_iload_n dWay_weighCarrying_49 rfl ?_
    obtain ⟨h3, H⟩ := H
    refine ev_iald hok (waLand_7 hwux1_0) h3 dWay_weighCarrying_50 ?_
    refine ev_callV [.int ((I (ux1_0 + 10) (x4 : Int32).toNatClampNeg)), .int ((I (ux1_0 + 3) (x3 : Int32).toNatClampNeg))] [] (B' := (0, 0)) (B'' := (0, 0)) hok mmLand_daysBetween mk_Way_102 (ci := 1) rfl rfl (woLand hwux1_0) rfl (Nat.le_of_ble_eq_true rfl) rfl (Nat.le_of_ble_eq_true rfl) dWay_weighCarrying_51 rfl (by decide) H (fun v τ p4 => ?_)
    obtain ⟨r5, I6, L7, rfl, rfl, H⟩ := p4
    refine ev_istore dWay_weighCarrying_54 (by decide) ?_
    refine ev_aload_n dWay_weighCarrying_56 rfl ?_
    refine ev_iload dWay_weighCarrying_57 rfl ?_
    refine ev_iload dWay_weighCarrying_59 rfl ?_
    refine ev_callV [.int x4, .int r5] [] (B' := (0, 0)) (B'' := (0, 0)) hok mmRun_carryingCost mk_Way_106 (ci := 7) rfl rfl (woRun hw1) rfl (Nat.le_of_ble_eq_true rfl) rfl (Nat.le_of_ble_eq_true rfl) dWay_weighCarrying_61 rfl (by decide) H (fun v τ p8 => ?_)
    obtain ⟨r9, I10, L11, rfl, rfl, H⟩ := p8
    refine ev_istore dWay_weighCarrying_64 (by decide) ?_
    refine ev_aload_n dWay_weighCarrying_66 rfl ?_
    refine ev_iload_n dWay_weighCarrying_67 rfl ?_
    refine ev_iload dWay_weighCarrying_68 rfl ?_
    refine ev_callS [.ref x1, .int x2, .int r9] [] (B' := (0, 0)) (B'' := (0, 0)) hok mmWay_affordable mk_Way_109 rfl (Nat.le_of_ble_eq_true rfl) rfl (Nat.le_of_ble_eq_true rfl) dWay_weighCarrying_70 rfl (by decide) H (fun v τ p12 => ?_)
    obtain ⟨r13, I14, L15, rfl, rfl, H⟩ := p12
    refine ev_aload_n dWay_weighCarrying_73 rfl ?_
    refine ev_getR hok fk_Way_113 (woRun hw1) (fun _ _ _ => rfl) (wrRun_3 hw1) dWay_weighCarrying_74 ?_
    refine ev_getR hok fk_Way_117 (woRealm (wsRun_3 hw1)) (fun _ _ _ => rfl) (wrRealm_5 (wsRun_3 hw1)) dWay_weighCarrying_77 ?_
    refine ev_iload dWay_weighCarrying_80 rfl ?_
    obtain ⟨h16, H⟩ := H
    refine ev_iald hok (waRealm_5 (wsRun_3 hw1)) h16 dWay_weighCarrying_82 ?_
    refine ev_bipush (10) dWay_weighCarrying_83 (by decide) ?_
    refine ev_idiv dWay_weighCarrying_85 (by decide) ?_
    refine ev_mmin (by decide) (q_t6 79 (by decide +kernel) rfl) (q_t4 44 (by decide +kernel) rfl) (q_t1 19 (by decide +kernel) rfl) (q_t4 45 rfl rfl) (Nat.le_of_ble_eq_true rfl) dWay_weighCarrying_86 ?_
    generalize ey17 : ((if ((I14 ((x1 + 24) + 6) (x4 : Int32).toNatClampNeg) / 10) < r13 then ((I14 ((x1 + 24) + 6) (x4 : Int32).toNatClampNeg) / 10) else r13) : Int32) = y17
    have H := H y17 ey17
    refine ev_istore dWay_weighCarrying_89 (by decide) ?_
    refine ev_iload dWay_weighCarrying_91 rfl ?_
    refine ev_iconst (-1) dWay_weighCarrying_93 (by decide) ?_
    refine ev_icmp_eq 142 dWay_weighCarrying_94 (by decide) (fun c18 => ?_) (fun c18 => ?_)
    · have H := H.1 c18
      exact ev_sub [(0, .ref o), (1, .ref x1), (2, .int x2), (3, .int x3), (4, .int x4), (5, .int r5), (6, .int r9), (7, .int y17)] rfl (sWay_weighCarrying_142 o n sh Rf I14 L15 post x1 x2 x3 x4 r5 r9 y17 ux1_0 hok hw hw1 hux1_0 hwux1_0 H)
    · have H := H.2 c18
      refine ev_iload dWay_weighCarrying_97 rfl ?_
      refine ev_if_le 142 dWay_weighCarrying_99 (by decide) (fun c19 => ?_) (fun c19 => ?_)
      · have H := H.1 c19
        exact ev_sub [(0, .ref o), (1, .ref x1), (2, .int x2), (3, .int x3), (4, .int x4), (5, .int r5), (6, .int r9), (7, .int y17)] rfl (sWay_weighCarrying_142 o n sh Rf I14 L15 post x1 x2 x3 x4 r5 r9 y17 ux1_0 hok hw hw1 hux1_0 hwux1_0 H)
      · have H := H.2 c19
        refine ev_aload_n dWay_weighCarrying_102 rfl ?_
        refine ev_iload_n dWay_weighCarrying_103 rfl ?_
        refine ev_iload dWay_weighCarrying_104 rfl ?_
        refine ev_callV [.int x3, .int r5] [] (B' := (0, 0)) (B'' := (0, 0)) hok mmRun_rateAt mk_Way_124 (ci := 7) rfl rfl (woRun hw1) rfl (Nat.le_of_ble_eq_true rfl) rfl (Nat.le_of_ble_eq_true rfl) dWay_weighCarrying_106 rfl (by decide) H (fun v τ p20 => ?_)
        obtain ⟨r21, I22, L23, rfl, rfl, H⟩ := p20
        refine ev_istore dWay_weighCarrying_109 (by decide) ?_
        refine ev_aload_n dWay_weighCarrying_111 rfl ?_
        refine ev_iconst (1) dWay_weighCarrying_112 (by decide) ?_
        refine ev_iload_n dWay_weighCarrying_113 rfl ?_
        refine ev_iload dWay_weighCarrying_114 rfl ?_
        refine ev_iload dWay_weighCarrying_116 rfl ?_
        refine ev_iload dWay_weighCarrying_118 rfl ?_
        refine ev_iload dWay_weighCarrying_120 rfl ?_
        refine ev_imul dWay_weighCarrying_122 ?_
        refine ev_iload dWay_weighCarrying_123 rfl ?_
        refine ev_i2l dWay_weighCarrying_125 ?_
        refine ev_iload dWay_weighCarrying_126 rfl ?_
        refine ev_i2l dWay_weighCarrying_128 ?_
        refine ev_aload_n dWay_weighCarrying_129 rfl ?_
        refine ev_getL hok fk_Way_34 (woWay hw) (fun _ _ _ => rfl) dWay_weighCarrying_130 ?_
        refine ev_lmul dWay_weighCarrying_133 ?_
        refine ev_iload dWay_weighCarrying_134 rfl ?_
        refine ev_i2l dWay_weighCarrying_136 ?_
        refine ev_lsub dWay_weighCarrying_137 ?_
        refine ev_lmul dWay_weighCarrying_138 ?_
        refine ev_callV [.int 1, .int x3, .int x4, .int y17, .int ((y17 * r21)), .long (((y17 : Int32).toInt64 * (((r21 : Int32).toInt64 * (L23 o 7)) - (r9 : Int32).toInt64)))] [] (B' := (0, 0)) (B'' := (0, 0)) hok mmWay_weigh mk_Way_127 (ci := 10) rfl rfl (woWay hw) rfl (Nat.le_of_ble_eq_true rfl) rfl (Nat.le_of_ble_eq_true rfl) dWay_weighCarrying_139 rfl (by decide) H (fun v τ p24 => ?_)
        obtain ⟨I26, L27, rfl, rfl, H⟩ := p24
        exact ev_sub [(0, .ref o), (1, .ref x1), (2, .int x2), (3, .int x3), (4, .int x4), (5, .int r5), (6, .int r9), (7, .int y17)] rfl (sWay_weighCarrying_142 o n sh Rf I26 L27 post x1 x2 x3 x4 r5 r9 y17 ux1_0 hok hw hw1 hux1_0 hwux1_0 H)
def fWay_weighCarrying_2 (D : va_G) (cA : FieldType → ClassId) (b : Nat) (E : State → Prop) (o : Nat) (n : Nat) (sh : Nat → qC) (Rf : Nat → Nat → Option Nat) (I : Nat → Nat → Int32) (L : Nat → Nat → Int64) (post : Option Value → qS → Prop) (x1 : Nat) (x2 : Int32) (x3 : Int32) (ux1_0 : Nat) : Prop :=
  (((I ux1_0 1) ≤ x3 → post none (n, sh, Rf, I, L)) ∧ (¬ (I ux1_0 1) ≤ x3 → Ev (qGG D cA b E) mWay_weighCarrying 3 (0, 0) 16 [(0, .ref o), (1, .ref x1), (2, .int x2), (3, .int x3), (4, .int 0)] [] (n, sh, Rf, I, L) post))
set_option maxHeartbeats 4000000 in
set_option maxRecDepth 20000 in
theorem sWay_weighCarrying_2 {D : va_G} {cA : FieldType → ClassId} {b : Nat} {E : State → Prop} (o : Nat) (n : Nat) (sh : Nat → qC) (Rf : Nat → Nat → Option Nat) (I : Nat → Nat → Int32) (L : Nat → Nat → Int64) (post : Option Value → qS → Prop) (x1 : Nat) (x2 : Int32) (x3 : Int32) (ux1_0 : Nat) (hok : q_ok (qGG D cA b E)) (hw : WfWay (qGG D cA b E) n sh Rf o) (hw1 : WfRun (qGG D cA b E) n sh Rf x1) (hux1_0 : Rf x1 0 = some ux1_0) (hwux1_0 : WfLand (qGG D cA b E) n sh Rf ux1_0) (H : fWay_weighCarrying_2 D cA b E o n sh Rf I L post x1 x2 x3 ux1_0) : Ev (qGG D cA b E) mWay_weighCarrying 3 (0, 0) 2 [(0, .ref o), (1, .ref x1), (2, .int x2), (3, .int x3)] [] (n, sh, Rf, I, L) post := by
  unfold fWay_weighCarrying_2 at H
  refine ev_iload_n dWay_weighCarrying_2 rfl ?_
  refine ev_aload_n dWay_weighCarrying_3 rfl ?_
  refine ev_getR hok fk_Way_39 (woRun hw1) (fun _ _ _ => rfl) hux1_0 dWay_weighCarrying_4 ?_
  refine ev_getI hok fk_Way_89 (woLand hwux1_0) (fun _ _ _ => rfl) dWay_weighCarrying_7 ?_
  refine ev_icmp_ge 154 dWay_weighCarrying_10 (by decide) (fun c1 => ?_) (fun c1 => ?_)
  · have H := H.1 c1
    exact ev_vret rfl dWay_weighCarrying_154 H
  · have H := H.2 c1
    refine ev_iconst (0) dWay_weighCarrying_13 (by decide) ?_
    refine ev_istore dWay_weighCarrying_14 (by decide) ?_
    exact ev_sub [(0, .ref o), (1, .ref x1), (2, .int x2), (3, .int x3), (4, .int 0)] rfl H
def fWay_weighCarrying_0 (D : va_G) (cA : FieldType → ClassId) (b : Nat) (E : State → Prop) (o : Nat) (n : Nat) (sh : Nat → qC) (Rf : Nat → Nat → Option Nat) (I : Nat → Nat → Int32) (L : Nat → Nat → Int64) (post : Option Value → qS → Prop) (x1 : Nat) (x2 : Int32) (ux1_0 : Nat) : Prop :=
  Ev (qGG D cA b E) mWay_weighCarrying 3 (0, 0) 2 [(0, .ref o), (1, .ref x1), (2, .int x2), (3, .int 0)] [] (n, sh, Rf, I, L) post
set_option maxHeartbeats 4000000 in
set_option maxRecDepth 20000 in
theorem sWay_weighCarrying_0 {D : va_G} {cA : FieldType → ClassId} {b : Nat} {E : State → Prop} (o : Nat) (n : Nat) (sh : Nat → qC) (Rf : Nat → Nat → Option Nat) (I : Nat → Nat → Int32) (L : Nat → Nat → Int64) (post : Option Value → qS → Prop) (x1 : Nat) (x2 : Int32) (ux1_0 : Nat) (hok : q_ok (qGG D cA b E)) (hw : WfWay (qGG D cA b E) n sh Rf o) (hw1 : WfRun (qGG D cA b E) n sh Rf x1) (hux1_0 : Rf x1 0 = some ux1_0) (hwux1_0 : WfLand (qGG D cA b E) n sh Rf ux1_0) (H : fWay_weighCarrying_0 D cA b E o n sh Rf I L post x1 x2 ux1_0) : Ev (qGG D cA b E) mWay_weighCarrying 3 (0, 0) 0 [(0, .ref o), (1, .ref x1), (2, .int x2)] [] (n, sh, Rf, I, L) post := by
  unfold fWay_weighCarrying_0 at H
  refine ev_iconst (0) dWay_weighCarrying_0 (by decide) ?_
  refine ev_istore_n dWay_weighCarrying_1 (by decide) ?_
  exact ev_sub [(0, .ref o), (1, .ref x1), (2, .int x2), (3, .int 0)] rfl H
def fWay_weighFarming_85 (D : va_G) (cA : FieldType → ClassId) (b : Nat) (E : State → Prop) (o : Nat) (n : Nat) (sh : Nat → qC) (Rf : Nat → Nat → Option Nat) (I : Nat → Nat → Int32) (L : Nat → Nat → Int64) (post : Option Value → qS → Prop) (x1 : Nat) (x2 : Int32) (x3 : Int32) (x4 : Int32) (x5 : Int32) (ux1_1 : Nat) (ux1_0 : Nat) : Prop :=
  Ev (qGG D cA b E) mWay_weighFarming 3 (0, 0) 19 [(0, .ref o), (1, .ref x1), (2, .int x2), (3, .int x3), (4, .int x4), (5, .int ((x5 + Int32.ofInt 1)))] [] (n, sh, Rf, I, L) post
set_option maxHeartbeats 4000000 in
set_option maxRecDepth 20000 in
theorem sWay_weighFarming_85 {D : va_G} {cA : FieldType → ClassId} {b : Nat} {E : State → Prop} (o : Nat) (n : Nat) (sh : Nat → qC) (Rf : Nat → Nat → Option Nat) (I : Nat → Nat → Int32) (L : Nat → Nat → Int64) (post : Option Value → qS → Prop) (x1 : Nat) (x2 : Int32) (x3 : Int32) (x4 : Int32) (x5 : Int32) (ux1_1 : Nat) (ux1_0 : Nat) (hok : q_ok (qGG D cA b E)) (hw : WfWay (qGG D cA b E) n sh Rf o) (hw1 : WfRun (qGG D cA b E) n sh Rf x1) (hux1_1 : Rf x1 1 = some ux1_1) (hwux1_1 : WfTrade (qGG D cA b E) n sh Rf ux1_1) (hux1_0 : Rf x1 0 = some ux1_0) (hwux1_0 : WfLand (qGG D cA b E) n sh Rf ux1_0) (H : fWay_weighFarming_85 D cA b E o n sh Rf I L post x1 x2 x3 x4 x5 ux1_1 ux1_0) : Ev (qGG D cA b E) mWay_weighFarming 3 (0, 0) 85 [(0, .ref o), (1, .ref x1), (2, .int x2), (3, .int x3), (4, .int x4), (5, .int x5)] [] (n, sh, Rf, I, L) post := by
  unfold fWay_weighFarming_85 at H
  refine ev_iinc dWay_weighFarming_85 rfl (by decide) ?_
  refine ev_goto 19 dWay_weighFarming_88 (by decide) ?_
  exact ev_sub [(0, .ref o), (1, .ref x1), (2, .int x2), (3, .int x3), (4, .int x4), (5, .int ((x5 + Int32.ofInt 1)))] rfl H
def fWay_weighFarming_19 (D : va_G) (cA : FieldType → ClassId) (b : Nat) (E : State → Prop) (o : Nat) (n : Nat) (sh : Nat → qC) (Rf : Nat → Nat → Option Nat) (I : Nat → Nat → Int32) (L : Nat → Nat → Int64) (post : Option Value → qS → Prop) (x1 : Nat) (x2 : Int32) (x3 : Int32) (x4 : Int32) (x5 : Int32) (ux1_1 : Nat) (ux1_0 : Nat) : Prop :=
  (((I ux1_0 1) ≤ x5 → post none (n, sh, Rf, I, L)) ∧ (¬ (I ux1_0 1) ≤ x5 → Ev (qGG D cA b E) mRun_hasRipeFarm 1 (0, 0) 0 (lv_args 0 [.ref x1, .int x2, .int x5]) [] (n, sh, Rf, I, L) (fun v τ => ∃ (r3 : Int32) (I4 : Nat → Nat → Int32) (L5 : Nat → Nat → Int64), v = some (.int r3) ∧ τ = (n, sh, Rf, I4, L5) ∧ ((r3 = 0 → fWay_weighFarming_85 D cA b E o n sh Rf I4 L5 post x1 x2 x3 x4 x5 ux1_1 ux1_0) ∧ (¬ r3 = 0 → ((x4 ≤ 0 → fWay_weighFarming_85 D cA b E o n sh Rf I4 L5 post x1 x2 x3 x4 x5 ux1_1 ux1_0) ∧ (¬ x4 ≤ 0 → Ev (qGG D cA b E) mRun_rateAt 2 (0, 0) 0 (lv_args 0 [.ref x1, .int x5, .int 0]) [] (n, sh, Rf, I4, L5) (fun v τ => ∃ (r9 : Int32) (I10 : Nat → Nat → Int32) (L11 : Nat → Nat → Int64), v = some (.int r9) ∧ τ = (n, sh, Rf, I10, L11) ∧ Ev (qGG D cA b E) mWay_weigh 0 (0, 0) 0 (lv_args 0 [.ref o, .int 2, .int x5, .int ((-1)), .int x4, .int ((x4 * r9)), .long (((x4 : Int32).toInt64 * (((r9 : Int32).toInt64 * (L11 o 7)) - (x3 : Int32).toInt64)))]) [] (n, sh, Rf, I10, L11) (fun v τ => ∃ (I14 : Nat → Nat → Int32) (L15 : Nat → Nat → Int64), v = none ∧ τ = (n, sh, Rf, I14, L15) ∧ fWay_weighFarming_85 D cA b E o n sh Rf I14 L15 post x1 x2 x3 x4 x5 ux1_1 ux1_0)))))))))
set_option maxHeartbeats 4000000 in
set_option maxRecDepth 20000 in
theorem sWay_weighFarming_19 {D : va_G} {cA : FieldType → ClassId} {b : Nat} {E : State → Prop} (o : Nat) (n : Nat) (sh : Nat → qC) (Rf : Nat → Nat → Option Nat) (I : Nat → Nat → Int32) (L : Nat → Nat → Int64) (post : Option Value → qS → Prop) (x1 : Nat) (x2 : Int32) (x3 : Int32) (x4 : Int32) (x5 : Int32) (ux1_1 : Nat) (ux1_0 : Nat) (hok : q_ok (qGG D cA b E)) (hw : WfWay (qGG D cA b E) n sh Rf o) (hw1 : WfRun (qGG D cA b E) n sh Rf x1) (hux1_1 : Rf x1 1 = some ux1_1) (hwux1_1 : WfTrade (qGG D cA b E) n sh Rf ux1_1) (hux1_0 : Rf x1 0 = some ux1_0) (hwux1_0 : WfLand (qGG D cA b E) n sh Rf ux1_0) (H : fWay_weighFarming_19 D cA b E o n sh Rf I L post x1 x2 x3 x4 x5 ux1_1 ux1_0) : Ev (qGG D cA b E) mWay_weighFarming 3 (0, 0) 19 [(0, .ref o), (1, .ref x1), (2, .int x2), (3, .int x3), (4, .int x4), (5, .int x5)] [] (n, sh, Rf, I, L) post := by
  unfold fWay_weighFarming_19 at H
  refine ev_iload dWay_weighFarming_19 rfl ?_
  refine ev_aload_n dWay_weighFarming_21 rfl ?_
  refine ev_getR hok fk_Way_39 (woRun hw1) (fun _ _ _ => rfl) hux1_0 dWay_weighFarming_22 ?_
  refine ev_getI hok fk_Way_89 (woLand hwux1_0) (fun _ _ _ => rfl) dWay_weighFarming_25 ?_
  refine ev_icmp_ge 91 dWay_weighFarming_28 (by decide) (fun c1 => ?_) (fun c1 => ?_)
  · have H := H.1 c1
    exact ev_vret rfl dWay_weighFarming_91 H
  · have H := H.2 c1
    refine ev_aload_n dWay_weighFarming_31 rfl ?_
    refine ev_iload_n dWay_weighFarming_32 rfl ?_
    refine ev_iload dWay_weighFarming_33 rfl ?_
    refine ev_callV [.int x2, .int x5] [] (B' := (0, 0)) (B'' := (0, 0)) hok mmRun_hasRipeFarm mk_Way_134 (ci := 7) rfl rfl (woRun hw1) rfl (Nat.le_of_ble_eq_true rfl) rfl (Nat.le_of_ble_eq_true rfl) dWay_weighFarming_35 rfl (by decide) H (fun v τ p2 => ?_)
    obtain ⟨r3, I4, L5, rfl, rfl, H⟩ := p2
    refine ev_if_eq 85 dWay_weighFarming_38 (by decide) (fun c6 => ?_) (fun c6 => ?_)
    · have H := H.1 c6
      exact ev_sub [(0, .ref o), (1, .ref x1), (2, .int x2), (3, .int x3), (4, .int x4), (5, .int x5)] rfl (sWay_weighFarming_85 o n sh Rf I4 L5 post x1 x2 x3 x4 x5 ux1_1 ux1_0 hok hw hw1 hux1_1 hwux1_1 hux1_0 hwux1_0 H)
    · have H := H.2 c6
      refine ev_iload dWay_weighFarming_41 rfl ?_
      refine ev_if_le 85 dWay_weighFarming_43 (by decide) (fun c7 => ?_) (fun c7 => ?_)
      · have H := H.1 c7
        exact ev_sub [(0, .ref o), (1, .ref x1), (2, .int x2), (3, .int x3), (4, .int x4), (5, .int x5)] rfl (sWay_weighFarming_85 o n sh Rf I4 L5 post x1 x2 x3 x4 x5 ux1_1 ux1_0 hok hw hw1 hux1_1 hwux1_1 hux1_0 hwux1_0 H)
      · have H := H.2 c7
        refine ev_aload_n dWay_weighFarming_46 rfl ?_
        refine ev_iload dWay_weighFarming_47 rfl ?_
        refine ev_iconst (0) dWay_weighFarming_49 (by decide) ?_
        refine ev_callV [.int x5, .int 0] [] (B' := (0, 0)) (B'' := (0, 0)) hok mmRun_rateAt mk_Way_124 (ci := 7) rfl rfl (woRun hw1) rfl (Nat.le_of_ble_eq_true rfl) rfl (Nat.le_of_ble_eq_true rfl) dWay_weighFarming_50 rfl (by decide) H (fun v τ p8 => ?_)
        obtain ⟨r9, I10, L11, rfl, rfl, H⟩ := p8
        refine ev_istore dWay_weighFarming_53 (by decide) ?_
        refine ev_aload_n dWay_weighFarming_55 rfl ?_
        refine ev_iconst (2) dWay_weighFarming_56 (by decide) ?_
        refine ev_iload dWay_weighFarming_57 rfl ?_
        refine ev_iconst (-1) dWay_weighFarming_59 (by decide) ?_
        refine ev_iload dWay_weighFarming_60 rfl ?_
        refine ev_iload dWay_weighFarming_62 rfl ?_
        refine ev_iload dWay_weighFarming_64 rfl ?_
        refine ev_imul dWay_weighFarming_66 ?_
        refine ev_iload dWay_weighFarming_67 rfl ?_
        refine ev_i2l dWay_weighFarming_69 ?_
        refine ev_iload dWay_weighFarming_70 rfl ?_
        refine ev_i2l dWay_weighFarming_72 ?_
        refine ev_aload_n dWay_weighFarming_73 rfl ?_
        refine ev_getL hok fk_Way_34 (woWay hw) (fun _ _ _ => rfl) dWay_weighFarming_74 ?_
        refine ev_lmul dWay_weighFarming_77 ?_
        refine ev_iload_n dWay_weighFarming_78 rfl ?_
        refine ev_i2l dWay_weighFarming_79 ?_
        refine ev_lsub dWay_weighFarming_80 ?_
        refine ev_lmul dWay_weighFarming_81 ?_
        refine ev_callV [.int 2, .int x5, .int ((-1)), .int x4, .int ((x4 * r9)), .long (((x4 : Int32).toInt64 * (((r9 : Int32).toInt64 * (L11 o 7)) - (x3 : Int32).toInt64)))] [] (B' := (0, 0)) (B'' := (0, 0)) hok mmWay_weigh mk_Way_127 (ci := 10) rfl rfl (woWay hw) rfl (Nat.le_of_ble_eq_true rfl) rfl (Nat.le_of_ble_eq_true rfl) dWay_weighFarming_82 rfl (by decide) H (fun v τ p12 => ?_)
        obtain ⟨I14, L15, rfl, rfl, H⟩ := p12
        exact ev_sub [(0, .ref o), (1, .ref x1), (2, .int x2), (3, .int x3), (4, .int x4), (5, .int x5)] rfl (sWay_weighFarming_85 o n sh Rf I14 L15 post x1 x2 x3 x4 x5 ux1_1 ux1_0 hok hw hw1 hux1_1 hwux1_1 hux1_0 hwux1_0 H)
def fWay_weighFarming_0 (D : va_G) (cA : FieldType → ClassId) (b : Nat) (E : State → Prop) (o : Nat) (n : Nat) (sh : Nat → qC) (Rf : Nat → Nat → Option Nat) (I : Nat → Nat → Int32) (L : Nat → Nat → Int64) (post : Option Value → qS → Prop) (x1 : Nat) (x2 : Int32) (ux1_1 : Nat) (ux1_0 : Nat) : Prop :=
  Ev (qGG D cA b E) mWay_affordable 1 (0, 0) 0 (lv_args 0 [.ref x1, .int x2, .int ((I ux1_1 6))]) [] (n, sh, Rf, I, L) (fun v τ => ∃ (r2 : Int32) (I3 : Nat → Nat → Int32) (L4 : Nat → Nat → Int64), v = some (.int r2) ∧ τ = (n, sh, Rf, I3, L4) ∧ Ev (qGG D cA b E) mWay_weighFarming 3 (0, 0) 19 [(0, .ref o), (1, .ref x1), (2, .int x2), (3, .int ((I ux1_1 6))), (4, .int r2), (5, .int 0)] [] (n, sh, Rf, I3, L4) post)
set_option maxHeartbeats 4000000 in
set_option maxRecDepth 20000 in
theorem sWay_weighFarming_0 {D : va_G} {cA : FieldType → ClassId} {b : Nat} {E : State → Prop} (o : Nat) (n : Nat) (sh : Nat → qC) (Rf : Nat → Nat → Option Nat) (I : Nat → Nat → Int32) (L : Nat → Nat → Int64) (post : Option Value → qS → Prop) (x1 : Nat) (x2 : Int32) (ux1_1 : Nat) (ux1_0 : Nat) (hok : q_ok (qGG D cA b E)) (hw : WfWay (qGG D cA b E) n sh Rf o) (hw1 : WfRun (qGG D cA b E) n sh Rf x1) (hux1_1 : Rf x1 1 = some ux1_1) (hwux1_1 : WfTrade (qGG D cA b E) n sh Rf ux1_1) (hux1_0 : Rf x1 0 = some ux1_0) (hwux1_0 : WfLand (qGG D cA b E) n sh Rf ux1_0) (H : fWay_weighFarming_0 D cA b E o n sh Rf I L post x1 x2 ux1_1 ux1_0) : Ev (qGG D cA b E) mWay_weighFarming 3 (0, 0) 0 [(0, .ref o), (1, .ref x1), (2, .int x2)] [] (n, sh, Rf, I, L) post := by
  unfold fWay_weighFarming_0 at H
  refine ev_aload_n dWay_weighFarming_0 rfl ?_
  refine ev_getR hok fk_Way_70 (woRun hw1) (fun _ _ _ => rfl) hux1_1 dWay_weighFarming_1 ?_
  refine ev_getI hok fk_Way_131 (woTrade hwux1_1) (fun _ _ _ => rfl) dWay_weighFarming_4 ?_
  refine ev_istore_n dWay_weighFarming_7 (by decide) ?_
  refine ev_aload_n dWay_weighFarming_8 rfl ?_
  refine ev_iload_n dWay_weighFarming_9 rfl ?_
  refine ev_iload_n dWay_weighFarming_10 rfl ?_
  refine ev_callS [.ref x1, .int x2, .int ((I ux1_1 6))] [] (B' := (0, 0)) (B'' := (0, 0)) hok mmWay_affordable mk_Way_109 rfl (Nat.le_of_ble_eq_true rfl) rfl (Nat.le_of_ble_eq_true rfl) dWay_weighFarming_11 rfl (by decide) H (fun v τ p1 => ?_)
  obtain ⟨r2, I3, L4, rfl, rfl, H⟩ := p1
  refine ev_istore dWay_weighFarming_14 (by decide) ?_
  refine ev_iconst (0) dWay_weighFarming_16 (by decide) ?_
  refine ev_istore dWay_weighFarming_17 (by decide) ?_
  exact ev_sub [(0, .ref o), (1, .ref x1), (2, .int x2), (3, .int ((I ux1_1 6))), (4, .int r2), (5, .int 0)] rfl H
def fWay_weighFounding_91 (D : va_G) (cA : FieldType → ClassId) (b : Nat) (E : State → Prop) (o : Nat) (n : Nat) (sh : Nat → qC) (Rf : Nat → Nat → Option Nat) (I : Nat → Nat → Int32) (L : Nat → Nat → Int64) (post : Option Value → qS → Prop) (x1 : Nat) (x2 : Int32) (x3 : Int32) (ux1_0 : Nat) (ux1_1 : Nat) : Prop :=
  Ev (qGG D cA b E) mWay_weighFounding 3 (0, 0) 2 [(0, .ref o), (1, .ref x1), (2, .int x2), (3, .int ((x3 + Int32.ofInt 1)))] [] (n, sh, Rf, I, L) post
set_option maxHeartbeats 4000000 in
set_option maxRecDepth 20000 in
theorem sWay_weighFounding_91 {D : va_G} {cA : FieldType → ClassId} {b : Nat} {E : State → Prop} (o : Nat) (n : Nat) (sh : Nat → qC) (Rf : Nat → Nat → Option Nat) (I : Nat → Nat → Int32) (L : Nat → Nat → Int64) (post : Option Value → qS → Prop) (x1 : Nat) (x2 : Int32) (x3 : Int32) (ux1_0 : Nat) (ux1_1 : Nat) (hok : q_ok (qGG D cA b E)) (hw : WfWay (qGG D cA b E) n sh Rf o) (hw1 : WfRun (qGG D cA b E) n sh Rf x1) (hux1_0 : Rf x1 0 = some ux1_0) (hwux1_0 : WfLand (qGG D cA b E) n sh Rf ux1_0) (hux1_1 : Rf x1 1 = some ux1_1) (hwux1_1 : WfTrade (qGG D cA b E) n sh Rf ux1_1) (H : fWay_weighFounding_91 D cA b E o n sh Rf I L post x1 x2 x3 ux1_0 ux1_1) : Ev (qGG D cA b E) mWay_weighFounding 3 (0, 0) 91 [(0, .ref o), (1, .ref x1), (2, .int x2), (3, .int x3)] [] (n, sh, Rf, I, L) post := by
  unfold fWay_weighFounding_91 at H
  refine ev_iinc dWay_weighFounding_91 rfl (by decide) ?_
  refine ev_goto 2 dWay_weighFounding_94 (by decide) ?_
  exact ev_sub [(0, .ref o), (1, .ref x1), (2, .int x2), (3, .int ((x3 + Int32.ofInt 1)))] rfl H
def fWay_weighFounding_2 (D : va_G) (cA : FieldType → ClassId) (b : Nat) (E : State → Prop) (o : Nat) (n : Nat) (sh : Nat → qC) (Rf : Nat → Nat → Option Nat) (I : Nat → Nat → Int32) (L : Nat → Nat → Int64) (post : Option Value → qS → Prop) (x1 : Nat) (x2 : Int32) (x3 : Int32) (ux1_0 : Nat) (ux1_1 : Nat) : Prop :=
  (((I ux1_0 1) ≤ x3 → post none (n, sh, Rf, I, L)) ∧ (¬ (I ux1_0 1) ≤ x3 → Ev (qGG D cA b E) mRun_hasFarm 0 (0, 0) 0 (lv_args 0 [.ref x1, .int x2, .int x3]) [] (n, sh, Rf, I, L) (fun v τ => ∃ (r3 : Int32) (I4 : Nat → Nat → Int32) (L5 : Nat → Nat → Int64), v = some (.int r3) ∧ τ = (n, sh, Rf, I4, L5) ∧ ((¬ r3 = 0 → fWay_weighFounding_91 D cA b E o n sh Rf I4 L5 post x1 x2 x3 ux1_0 ux1_1) ∧ (r3 = 0 → vp_in x2 6 ∧ (((lg_cmp (L5 (x1 + 61) (x2 : Int32).toNatClampNeg) (((I4 ux1_1 5) : Int32).toInt64)) < 0 → fWay_weighFounding_91 D cA b E o n sh Rf I4 L5 post x1 x2 x3 ux1_0 ux1_1) ∧ (¬ (lg_cmp (L5 (x1 + 61) (x2 : Int32).toNatClampNeg) (((I4 ux1_1 5) : Int32).toInt64)) < 0 → Ev (qGG D cA b E) mRun_rateAt 2 (0, 0) 0 (lv_args 0 [.ref x1, .int x3, .int 0]) [] (n, sh, Rf, I4, L5) (fun v τ => ∃ (r10 : Int32) (I11 : Nat → Nat → Int32) (L12 : Nat → Nat → Int64), v = some (.int r10) ∧ τ = (n, sh, Rf, I11, L12) ∧ Ev (qGG D cA b E) mWay_weigh 0 (0, 0) 0 (lv_args 0 [.ref o, .int 3, .int x3, .int ((-1)), .int 1, .int 0, .long ((((24 * (((r10 : Int32).toInt64 * (L12 o 7)) - ((I11 ux1_1 6) : Int32).toInt64)) - ((I11 ux1_1 5) : Int32).toInt64) / 24))]) [] (n, sh, Rf, I11, L12) (fun v τ => ∃ (I15 : Nat → Nat → Int32) (L16 : Nat → Nat → Int64), v = none ∧ τ = (n, sh, Rf, I15, L16) ∧ fWay_weighFounding_91 D cA b E o n sh Rf I15 L16 post x1 x2 x3 ux1_0 ux1_1)))))))))
set_option maxHeartbeats 4000000 in
set_option maxRecDepth 20000 in
theorem sWay_weighFounding_2 {D : va_G} {cA : FieldType → ClassId} {b : Nat} {E : State → Prop} (o : Nat) (n : Nat) (sh : Nat → qC) (Rf : Nat → Nat → Option Nat) (I : Nat → Nat → Int32) (L : Nat → Nat → Int64) (post : Option Value → qS → Prop) (x1 : Nat) (x2 : Int32) (x3 : Int32) (ux1_0 : Nat) (ux1_1 : Nat) (hok : q_ok (qGG D cA b E)) (hw : WfWay (qGG D cA b E) n sh Rf o) (hw1 : WfRun (qGG D cA b E) n sh Rf x1) (hux1_0 : Rf x1 0 = some ux1_0) (hwux1_0 : WfLand (qGG D cA b E) n sh Rf ux1_0) (hux1_1 : Rf x1 1 = some ux1_1) (hwux1_1 : WfTrade (qGG D cA b E) n sh Rf ux1_1) (H : fWay_weighFounding_2 D cA b E o n sh Rf I L post x1 x2 x3 ux1_0 ux1_1) : Ev (qGG D cA b E) mWay_weighFounding 3 (0, 0) 2 [(0, .ref o), (1, .ref x1), (2, .int x2), (3, .int x3)] [] (n, sh, Rf, I, L) post := by
  unfold fWay_weighFounding_2 at H
  refine ev_iload_n dWay_weighFounding_2 rfl ?_
  refine ev_aload_n dWay_weighFounding_3 rfl ?_
  refine ev_getR hok fk_Way_39 (woRun hw1) (fun _ _ _ => rfl) hux1_0 dWay_weighFounding_4 ?_
  refine ev_getI hok fk_Way_89 (woLand hwux1_0) (fun _ _ _ => rfl) dWay_weighFounding_7 ?_
  refine ev_icmp_ge 97 dWay_weighFounding_10 (by decide) (fun c1 => ?_) (fun c1 => ?_)
  · have H := H.1 c1
    exact ev_vret rfl dWay_weighFounding_97 H
  · have H := H.2 c1
    refine ev_aload_n dWay_weighFounding_13 rfl ?_
    refine ev_iload_n dWay_weighFounding_14 rfl ?_
    refine ev_iload_n dWay_weighFounding_15 rfl ?_
    refine ev_callV [.int x2, .int x3] [] (B' := (0, 0)) (B'' := (0, 0)) hok mmRun_hasFarm mk_Way_138 (ci := 7) rfl rfl (woRun hw1) rfl (Nat.le_of_ble_eq_true rfl) rfl (Nat.le_of_ble_eq_true rfl) dWay_weighFounding_16 rfl (by decide) H (fun v τ p2 => ?_)
    obtain ⟨r3, I4, L5, rfl, rfl, H⟩ := p2
    refine ev_if_ne 91 dWay_weighFounding_19 (by decide) (fun c6 => ?_) (fun c6 => ?_)
    · have H := H.1 c6
      exact ev_sub [(0, .ref o), (1, .ref x1), (2, .int x2), (3, .int x3)] rfl (sWay_weighFounding_91 o n sh Rf I4 L5 post x1 x2 x3 ux1_0 ux1_1 hok hw hw1 hux1_0 hwux1_0 hux1_1 hwux1_1 H)
    · have H := H.2 c6
      refine ev_aload_n dWay_weighFounding_22 rfl ?_
      refine ev_getR hok fk_Way_79 (woRun hw1) (fun _ _ _ => rfl) (wrRun_10 hw1) dWay_weighFounding_23 ?_
      refine ev_iload_n dWay_weighFounding_26 rfl ?_
      obtain ⟨h7, H⟩ := H
      refine ev_lald hok (waRun_10 hw1) h7 dWay_weighFounding_27 ?_
      refine ev_aload_n dWay_weighFounding_28 rfl ?_
      refine ev_getR hok fk_Way_70 (woRun hw1) (fun _ _ _ => rfl) hux1_1 dWay_weighFounding_29 ?_
      refine ev_getI hok fk_Way_141 (woTrade hwux1_1) (fun _ _ _ => rfl) dWay_weighFounding_32 ?_
      refine ev_i2l dWay_weighFounding_35 ?_
      refine ev_lcmp dWay_weighFounding_36 ?_
      refine ev_if_lt 91 dWay_weighFounding_37 (by decide) (fun c8 => ?_) (fun c8 => ?_)
      · have H := H.1 c8
        exact ev_sub [(0, .ref o), (1, .ref x1), (2, .int x2), (3, .int x3)] rfl (sWay_weighFounding_91 o n sh Rf I4 L5 post x1 x2 x3 ux1_0 ux1_1 hok hw hw1 hux1_0 hwux1_0 hux1_1 hwux1_1 H)
      · have H := H.2 c8
        refine ev_aload_n dWay_weighFounding_40 rfl ?_
        refine ev_iload_n dWay_weighFounding_41 rfl ?_
        refine ev_iconst (0) dWay_weighFounding_42 (by decide) ?_
        refine ev_callV [.int x3, .int 0] [] (B' := (0, 0)) (B'' := (0, 0)) hok mmRun_rateAt mk_Way_124 (ci := 7) rfl rfl (woRun hw1) rfl (Nat.le_of_ble_eq_true rfl) rfl (Nat.le_of_ble_eq_true rfl) dWay_weighFounding_43 rfl (by decide) H (fun v τ p9 => ?_)
        obtain ⟨r10, I11, L12, rfl, rfl, H⟩ := p9
        refine ev_i2l dWay_weighFounding_46 ?_
        refine ev_aload_n dWay_weighFounding_47 rfl ?_
        refine ev_getL hok fk_Way_34 (woWay hw) (fun _ _ _ => rfl) dWay_weighFounding_48 ?_
        refine ev_lmul dWay_weighFounding_51 ?_
        refine ev_aload_n dWay_weighFounding_52 rfl ?_
        refine ev_getR hok fk_Way_70 (woRun hw1) (fun _ _ _ => rfl) hux1_1 dWay_weighFounding_53 ?_
        refine ev_getI hok fk_Way_131 (woTrade hwux1_1) (fun _ _ _ => rfl) dWay_weighFounding_56 ?_
        refine ev_i2l dWay_weighFounding_59 ?_
        refine ev_lsub dWay_weighFounding_60 ?_
        refine ev_lstore dWay_weighFounding_61 (by decide) ?_
        refine ev_aload_n dWay_weighFounding_63 rfl ?_
        refine ev_iconst (3) dWay_weighFounding_64 (by decide) ?_
        refine ev_iload_n dWay_weighFounding_65 rfl ?_
        refine ev_iconst (-1) dWay_weighFounding_66 (by decide) ?_
        refine ev_iconst (1) dWay_weighFounding_67 (by decide) ?_
        refine ev_iconst (0) dWay_weighFounding_68 (by decide) ?_
        refine ev_ldc2 (24) dWay_weighFounding_69 (q_t6 105 (by decide +kernel) rfl) ?_
        refine ev_lload dWay_weighFounding_72 rfl ?_
        refine ev_lmul dWay_weighFounding_74 ?_
        refine ev_aload_n dWay_weighFounding_75 rfl ?_
        refine ev_getR hok fk_Way_70 (woRun hw1) (fun _ _ _ => rfl) hux1_1 dWay_weighFounding_76 ?_
        refine ev_getI hok fk_Way_141 (woTrade hwux1_1) (fun _ _ _ => rfl) dWay_weighFounding_79 ?_
        refine ev_i2l dWay_weighFounding_82 ?_
        refine ev_lsub dWay_weighFounding_83 ?_
        refine ev_ldc2 (24) dWay_weighFounding_84 (q_t6 105 (by decide +kernel) rfl) ?_
        refine ev_ldiv dWay_weighFounding_87 (by decide) ?_
        refine ev_callV [.int 3, .int x3, .int ((-1)), .int 1, .int 0, .long ((((24 * (((r10 : Int32).toInt64 * (L12 o 7)) - ((I11 ux1_1 6) : Int32).toInt64)) - ((I11 ux1_1 5) : Int32).toInt64) / 24))] [] (B' := (0, 0)) (B'' := (0, 0)) hok mmWay_weigh mk_Way_127 (ci := 10) rfl rfl (woWay hw) rfl (Nat.le_of_ble_eq_true rfl) rfl (Nat.le_of_ble_eq_true rfl) dWay_weighFounding_88 rfl (by decide) H (fun v τ p13 => ?_)
        obtain ⟨I15, L16, rfl, rfl, H⟩ := p13
        exact ev_sub [(0, .ref o), (1, .ref x1), (2, .int x2), (3, .int x3)] rfl (sWay_weighFounding_91 o n sh Rf I15 L16 post x1 x2 x3 ux1_0 ux1_1 hok hw hw1 hux1_0 hwux1_0 hux1_1 hwux1_1 H)
def fWay_weighFounding_0 (D : va_G) (cA : FieldType → ClassId) (b : Nat) (E : State → Prop) (o : Nat) (n : Nat) (sh : Nat → qC) (Rf : Nat → Nat → Option Nat) (I : Nat → Nat → Int32) (L : Nat → Nat → Int64) (post : Option Value → qS → Prop) (x1 : Nat) (x2 : Int32) (ux1_0 : Nat) (ux1_1 : Nat) : Prop :=
  Ev (qGG D cA b E) mWay_weighFounding 3 (0, 0) 2 [(0, .ref o), (1, .ref x1), (2, .int x2), (3, .int 0)] [] (n, sh, Rf, I, L) post
set_option maxHeartbeats 4000000 in
set_option maxRecDepth 20000 in
theorem sWay_weighFounding_0 {D : va_G} {cA : FieldType → ClassId} {b : Nat} {E : State → Prop} (o : Nat) (n : Nat) (sh : Nat → qC) (Rf : Nat → Nat → Option Nat) (I : Nat → Nat → Int32) (L : Nat → Nat → Int64) (post : Option Value → qS → Prop) (x1 : Nat) (x2 : Int32) (ux1_0 : Nat) (ux1_1 : Nat) (hok : q_ok (qGG D cA b E)) (hw : WfWay (qGG D cA b E) n sh Rf o) (hw1 : WfRun (qGG D cA b E) n sh Rf x1) (hux1_0 : Rf x1 0 = some ux1_0) (hwux1_0 : WfLand (qGG D cA b E) n sh Rf ux1_0) (hux1_1 : Rf x1 1 = some ux1_1) (hwux1_1 : WfTrade (qGG D cA b E) n sh Rf ux1_1) (H : fWay_weighFounding_0 D cA b E o n sh Rf I L post x1 x2 ux1_0 ux1_1) : Ev (qGG D cA b E) mWay_weighFounding 3 (0, 0) 0 [(0, .ref o), (1, .ref x1), (2, .int x2)] [] (n, sh, Rf, I, L) post := by
  unfold fWay_weighFounding_0 at H
  refine ev_iconst (0) dWay_weighFounding_0 (by decide) ?_
  refine ev_istore_n dWay_weighFounding_1 (by decide) ?_
  exact ev_sub [(0, .ref o), (1, .ref x1), (2, .int x2), (3, .int 0)] rfl H
