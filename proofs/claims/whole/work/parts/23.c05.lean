/-! Walks of the class: by program. -/
def fRun_finish_0 (D : va_G) (cA : FieldType → ClassId) (b : Nat) (E : State → Prop) (o : Nat) (n : Nat) (sh : Nat → qC) (Rf : Nat → Nat → Option Nat) (I : Nat → Nat → Int32) (L : Nat → Nat → Int64) (post : Option Value → qS → Prop)  : Prop :=
  ∀ I1 : Nat → Nat → Int32, q_u I o 17 (I o 16) = I1 → Ev (qGG D cA b E) mRun_tellMonth 2 (0, 0) 0 (lv_args 0 [.ref o]) [] (n, sh, Rf, I1, L) (fun v τ => ∃ (I4 : Nat → Nat → Int32) (L5 : Nat → Nat → Int64), v = none ∧ τ = (n, sh, Rf, I4, L5) ∧ Ev (qGG D cA b E) mPapers_closeQueue 1 (0, 0) 0 (lv_args 0 [.ref ((o + 31))]) [] (n, sh, Rf, I4, L5) (fun v τ => ∃ (I8 : Nat → Nat → Int32) (L9 : Nat → Nat → Int64), v = none ∧ τ = (n, sh, Rf, I8, L9) ∧ ∀ L10 : Nat → Nat → Int64, q_u L9 (o + 65) 6 (((I8 (o + 31) 13) : Int32).toInt64) = L10 → ∀ L11 : Nat → Nat → Int64, q_u L10 (o + 65) 7 (((I8 (o + 31) 14) : Int32).toInt64) = L11 → ∀ L12 : Nat → Nat → Int64, q_u L11 (o + 65) 10 (((I8 o 16) : Int32).toInt64) = L12 → ∀ I13 : Nat → Nat → Int32, q_u I8 o 15 1 = I13 → post none (n, sh, Rf, I13, L12)))
set_option maxHeartbeats 4000000 in
set_option maxRecDepth 20000 in
theorem sRun_finish_0 {D : va_G} {cA : FieldType → ClassId} {b : Nat} {E : State → Prop} (o : Nat) (n : Nat) (sh : Nat → qC) (Rf : Nat → Nat → Option Nat) (I : Nat → Nat → Int32) (L : Nat → Nat → Int64) (post : Option Value → qS → Prop)  (hok : q_ok (qGG D cA b E)) (hw : WfRun (qGG D cA b E) n sh Rf o) (H : fRun_finish_0 D cA b E o n sh Rf I L post ) : Ev (qGG D cA b E) mRun_finish 3 (0, 0) 0 [(0, .ref o)] [] (n, sh, Rf, I, L) post := by
  unfold fRun_finish_0 at H
  refine ev_aload_n dRun_finish_0 rfl ?_
  refine ev_aload_n dRun_finish_1 rfl ?_
  refine ev_getI hok fk_Run_94 (woRun hw) (fun _ _ _ => rfl) dRun_finish_2 ?_
  refine ev_putI hok fk_Run_98 (woRun hw) (fun _ _ _ => rfl) rfl rfl dRun_finish_5 ?_
  generalize eI1 : q_u I o 17 (I o 16) = I1
  have H := H I1 eI1
  refine ev_aload_n dRun_finish_8 rfl ?_
  refine ev_callV [] [] (B' := (0, 0)) (B'' := (0, 0)) hok mmRun_tellMonth mk_Run_128 (ci := 7) rfl rfl (woRun hw) rfl (Nat.le_of_ble_eq_true rfl) rfl (Nat.le_of_ble_eq_true rfl) dRun_finish_9 rfl (by decide) H (fun v τ p2 => ?_)
  obtain ⟨I4, L5, rfl, rfl, H⟩ := p2
  refine ev_aload_n dRun_finish_12 rfl ?_
  refine ev_getR hok fk_Run_42 (woRun hw) (fun _ _ _ => rfl) (wrRun_4 hw) dRun_finish_13 ?_
  refine ev_callV [] [] (B' := (0, 0)) (B'' := (0, 0)) hok mmPapers_closeQueue mk_Run_200 (ci := 3) rfl rfl (woPapers (wsRun_4 hw)) rfl (Nat.le_of_ble_eq_true rfl) rfl (Nat.le_of_ble_eq_true rfl) dRun_finish_16 rfl (by decide) H (fun v τ p6 => ?_)
  obtain ⟨I8, L9, rfl, rfl, H⟩ := p6
  refine ev_aload_n dRun_finish_19 rfl ?_
  refine ev_getR hok fk_Run_87 (woRun hw) (fun _ _ _ => rfl) (wrRun_14 hw) dRun_finish_20 ?_
  refine ev_bipush (6) dRun_finish_23 (by decide) ?_
  refine ev_aload_n dRun_finish_25 rfl ?_
  refine ev_getR hok fk_Run_42 (woRun hw) (fun _ _ _ => rfl) (wrRun_4 hw) dRun_finish_26 ?_
  refine ev_getI hok fk_Run_203 (woPapers (wsRun_4 hw)) (fun _ _ _ => rfl) dRun_finish_29 ?_
  refine ev_i2l dRun_finish_32 ?_
  refine ev_last hok (waRun_14 hw) (by unfold vp_in; decide) dRun_finish_33 ?_
  rw [show (6 : Int32).toNatClampNeg = 6 from rfl]
  generalize eL10 : q_u L9 (o + 65) 6 (((I8 (o + 31) 13) : Int32).toInt64) = L10
  have H := H L10 eL10
  refine ev_aload_n dRun_finish_34 rfl ?_
  refine ev_getR hok fk_Run_87 (woRun hw) (fun _ _ _ => rfl) (wrRun_14 hw) dRun_finish_35 ?_
  refine ev_bipush (7) dRun_finish_38 (by decide) ?_
  refine ev_aload_n dRun_finish_40 rfl ?_
  refine ev_getR hok fk_Run_42 (woRun hw) (fun _ _ _ => rfl) (wrRun_4 hw) dRun_finish_41 ?_
  refine ev_getI hok fk_Run_206 (woPapers (wsRun_4 hw)) (fun _ _ _ => rfl) dRun_finish_44 ?_
  refine ev_i2l dRun_finish_47 ?_
  refine ev_last hok (waRun_14 hw) (by unfold vp_in; decide) dRun_finish_48 ?_
  rw [show (7 : Int32).toNatClampNeg = 7 from rfl]
  generalize eL11 : q_u L10 (o + 65) 7 (((I8 (o + 31) 14) : Int32).toInt64) = L11
  have H := H L11 eL11
  refine ev_aload_n dRun_finish_49 rfl ?_
  refine ev_getR hok fk_Run_87 (woRun hw) (fun _ _ _ => rfl) (wrRun_14 hw) dRun_finish_50 ?_
  refine ev_bipush (10) dRun_finish_53 (by decide) ?_
  refine ev_aload_n dRun_finish_55 rfl ?_
  refine ev_getI hok fk_Run_94 (woRun hw) (fun _ _ _ => rfl) dRun_finish_56 ?_
  refine ev_i2l dRun_finish_59 ?_
  refine ev_last hok (waRun_14 hw) (by unfold vp_in; decide) dRun_finish_60 ?_
  rw [show (10 : Int32).toNatClampNeg = 10 from rfl]
  generalize eL12 : q_u L11 (o + 65) 10 (((I8 o 16) : Int32).toInt64) = L12
  have H := H L12 eL12
  refine ev_aload_n dRun_finish_61 rfl ?_
  refine ev_iconst (1) dRun_finish_62 (by decide) ?_
  refine ev_putI hok fk_Run_90 (woRun hw) (fun _ _ _ => rfl) (q_bz (Or.inr rfl)) (q_bf (Or.inr rfl)) dRun_finish_63 ?_
  generalize eI13 : q_u I8 o 15 1 = I13
  have H := H I13 eI13
  exact ev_vret rfl dRun_finish_66 H
def fRun_smuggleAll_66 (D : va_G) (cA : FieldType → ClassId) (b : Nat) (E : State → Prop) (o : Nat) (n : Nat) (sh : Nat → qC) (Rf : Nat → Nat → Option Nat) (I : Nat → Nat → Int32) (L : Nat → Nat → Int64) (post : Option Value → qS → Prop) (x1 : Int32) (x2 : Int32) (uo_0 : Nat) : Prop :=
  Ev (qGG D cA b E) mRun_smuggleAll 3 (0, 0) 28 [(0, .ref o), (1, .int x1), (2, .int ((x2 + Int32.ofInt 1)))] [] (n, sh, Rf, I, L) post
set_option maxHeartbeats 4000000 in
set_option maxRecDepth 20000 in
theorem sRun_smuggleAll_66 {D : va_G} {cA : FieldType → ClassId} {b : Nat} {E : State → Prop} (o : Nat) (n : Nat) (sh : Nat → qC) (Rf : Nat → Nat → Option Nat) (I : Nat → Nat → Int32) (L : Nat → Nat → Int64) (post : Option Value → qS → Prop) (x1 : Int32) (x2 : Int32) (uo_0 : Nat) (hok : q_ok (qGG D cA b E)) (hw : WfRun (qGG D cA b E) n sh Rf o) (huo_0 : Rf o 0 = some uo_0) (hwuo_0 : WfLand (qGG D cA b E) n sh Rf uo_0) (H : fRun_smuggleAll_66 D cA b E o n sh Rf I L post x1 x2 uo_0) : Ev (qGG D cA b E) mRun_smuggleAll 3 (0, 0) 66 [(0, .ref o), (1, .int x1), (2, .int x2)] [] (n, sh, Rf, I, L) post := by
  unfold fRun_smuggleAll_66 at H
  refine ev_iinc dRun_smuggleAll_66 rfl (by decide) ?_
  refine ev_goto 28 dRun_smuggleAll_69 (by decide) ?_
  exact ev_sub [(0, .ref o), (1, .int x1), (2, .int ((x2 + Int32.ofInt 1)))] rfl H
def fRun_smuggleAll_28 (D : va_G) (cA : FieldType → ClassId) (b : Nat) (E : State → Prop) (o : Nat) (n : Nat) (sh : Nat → qC) (Rf : Nat → Nat → Option Nat) (I : Nat → Nat → Int32) (L : Nat → Nat → Int64) (post : Option Value → qS → Prop) (x1 : Int32) (x2 : Int32) (uo_0 : Nat) : Prop :=
  (((I uo_0 3) ≤ x2 → Ev (qGG D cA b E) mRun_smuggleAll 3 (0, 0) 13 [(0, .ref o), (1, .int ((x1 + Int32.ofInt 1))), (2, .int x2)] [] (n, sh, Rf, I, L) post) ∧ (¬ (I uo_0 3) ≤ x2 → vp_in x1 5 ∧ vp_in x2 5 ∧ (((I (uo_0 + 11) (x1 : Int32).toNatClampNeg) = (I (uo_0 + 11) (x2 : Int32).toNatClampNeg) → fRun_smuggleAll_66 D cA b E o n sh Rf I L post x1 x2 uo_0) ∧ (¬ (I (uo_0 + 11) (x1 : Int32).toNatClampNeg) = (I (uo_0 + 11) (x2 : Int32).toNatClampNeg) → Ev (qGG D cA b E) mRun_smuggleBetween 2 (0, 0) 0 (lv_args 0 [.ref o, .int x1, .int x2]) [] (n, sh, Rf, I, L) (fun v τ => ∃ (I7 : Nat → Nat → Int32) (L8 : Nat → Nat → Int64), v = none ∧ τ = (n, sh, Rf, I7, L8) ∧ fRun_smuggleAll_66 D cA b E o n sh Rf I7 L8 post x1 x2 uo_0)))))
set_option maxHeartbeats 4000000 in
set_option maxRecDepth 20000 in
theorem sRun_smuggleAll_28 {D : va_G} {cA : FieldType → ClassId} {b : Nat} {E : State → Prop} (o : Nat) (n : Nat) (sh : Nat → qC) (Rf : Nat → Nat → Option Nat) (I : Nat → Nat → Int32) (L : Nat → Nat → Int64) (post : Option Value → qS → Prop) (x1 : Int32) (x2 : Int32) (uo_0 : Nat) (hok : q_ok (qGG D cA b E)) (hw : WfRun (qGG D cA b E) n sh Rf o) (huo_0 : Rf o 0 = some uo_0) (hwuo_0 : WfLand (qGG D cA b E) n sh Rf uo_0) (H : fRun_smuggleAll_28 D cA b E o n sh Rf I L post x1 x2 uo_0) : Ev (qGG D cA b E) mRun_smuggleAll 3 (0, 0) 28 [(0, .ref o), (1, .int x1), (2, .int x2)] [] (n, sh, Rf, I, L) post := by
  unfold fRun_smuggleAll_28 at H
  refine ev_iload_n dRun_smuggleAll_28 rfl ?_
  refine ev_aload_n dRun_smuggleAll_29 rfl ?_
  refine ev_getR hok fk_Run_12 (woRun hw) (fun _ _ _ => rfl) huo_0 dRun_smuggleAll_30 ?_
  refine ev_getI hok fk_Run_374 (woLand hwuo_0) (fun _ _ _ => rfl) dRun_smuggleAll_33 ?_
  refine ev_icmp_ge 72 dRun_smuggleAll_36 (by decide) (fun c1 => ?_) (fun c1 => ?_)
  · have H := H.1 c1
    refine ev_iinc dRun_smuggleAll_72 rfl (by decide) ?_
    refine ev_goto 13 dRun_smuggleAll_75 (by decide) ?_
    exact ev_sub [(0, .ref o), (1, .int ((x1 + Int32.ofInt 1))), (2, .int x2)] rfl H
  · have H := H.2 c1
    refine ev_aload_n dRun_smuggleAll_39 rfl ?_
    refine ev_getR hok fk_Run_12 (woRun hw) (fun _ _ _ => rfl) huo_0 dRun_smuggleAll_40 ?_
    refine ev_getR hok fk_Run_377 (woLand hwuo_0) (fun _ _ _ => rfl) (wrLand_15 hwuo_0) dRun_smuggleAll_43 ?_
    refine ev_iload_n dRun_smuggleAll_46 rfl ?_
    obtain ⟨h2, H⟩ := H
    refine ev_iald hok (waLand_15 hwuo_0) h2 dRun_smuggleAll_47 ?_
    refine ev_aload_n dRun_smuggleAll_48 rfl ?_
    refine ev_getR hok fk_Run_12 (woRun hw) (fun _ _ _ => rfl) huo_0 dRun_smuggleAll_49 ?_
    refine ev_getR hok fk_Run_377 (woLand hwuo_0) (fun _ _ _ => rfl) (wrLand_15 hwuo_0) dRun_smuggleAll_52 ?_
    refine ev_iload_n dRun_smuggleAll_55 rfl ?_
    obtain ⟨h3, H⟩ := H
    refine ev_iald hok (waLand_15 hwuo_0) h3 dRun_smuggleAll_56 ?_
    refine ev_icmp_eq 66 dRun_smuggleAll_57 (by decide) (fun c4 => ?_) (fun c4 => ?_)
    · have H := H.1 c4
      exact ev_sub [(0, .ref o), (1, .int x1), (2, .int x2)] rfl (sRun_smuggleAll_66 o n sh Rf I L post x1 x2 uo_0 hok hw huo_0 hwuo_0 H)
    · have H := H.2 c4
      refine ev_aload_n dRun_smuggleAll_60 rfl ?_
      refine ev_iload_n dRun_smuggleAll_61 rfl ?_
      refine ev_iload_n dRun_smuggleAll_62 rfl ?_
      refine ev_callV [.int x1, .int x2] [] (B' := (0, 0)) (B'' := (0, 0)) hok mmRun_smuggleBetween mk_Run_459 (ci := 7) rfl rfl (woRun hw) rfl (Nat.le_of_ble_eq_true rfl) rfl (Nat.le_of_ble_eq_true rfl) dRun_smuggleAll_63 rfl (by decide) H (fun v τ p5 => ?_)
      obtain ⟨I7, L8, rfl, rfl, H⟩ := p5
      exact ev_sub [(0, .ref o), (1, .int x1), (2, .int x2)] rfl (sRun_smuggleAll_66 o n sh Rf I7 L8 post x1 x2 uo_0 hok hw huo_0 hwuo_0 H)
def fRun_smuggleAll_13 (D : va_G) (cA : FieldType → ClassId) (b : Nat) (E : State → Prop) (o : Nat) (n : Nat) (sh : Nat → qC) (Rf : Nat → Nat → Option Nat) (I : Nat → Nat → Int32) (L : Nat → Nat → Int64) (post : Option Value → qS → Prop) (x1 : Int32) (uo_0 : Nat) : Prop :=
  (((I uo_0 3) ≤ x1 → post none (n, sh, Rf, I, L)) ∧ (¬ (I uo_0 3) ≤ x1 → Ev (qGG D cA b E) mRun_smuggleAll 3 (0, 0) 28 [(0, .ref o), (1, .int x1), (2, .int ((x1 + 1)))] [] (n, sh, Rf, I, L) post))
set_option maxHeartbeats 4000000 in
set_option maxRecDepth 20000 in
theorem sRun_smuggleAll_13 {D : va_G} {cA : FieldType → ClassId} {b : Nat} {E : State → Prop} (o : Nat) (n : Nat) (sh : Nat → qC) (Rf : Nat → Nat → Option Nat) (I : Nat → Nat → Int32) (L : Nat → Nat → Int64) (post : Option Value → qS → Prop) (x1 : Int32) (uo_0 : Nat) (hok : q_ok (qGG D cA b E)) (hw : WfRun (qGG D cA b E) n sh Rf o) (huo_0 : Rf o 0 = some uo_0) (hwuo_0 : WfLand (qGG D cA b E) n sh Rf uo_0) (H : fRun_smuggleAll_13 D cA b E o n sh Rf I L post x1 uo_0) : Ev (qGG D cA b E) mRun_smuggleAll 3 (0, 0) 13 [(0, .ref o), (1, .int x1)] [] (n, sh, Rf, I, L) post := by
  unfold fRun_smuggleAll_13 at H
  refine ev_iload_n dRun_smuggleAll_13 rfl ?_
  refine ev_aload_n dRun_smuggleAll_14 rfl ?_
  refine ev_getR hok fk_Run_12 (woRun hw) (fun _ _ _ => rfl) huo_0 dRun_smuggleAll_15 ?_
  refine ev_getI hok fk_Run_374 (woLand hwuo_0) (fun _ _ _ => rfl) dRun_smuggleAll_18 ?_
  refine ev_icmp_ge 78 dRun_smuggleAll_21 (by decide) (fun c1 => ?_) (fun c1 => ?_)
  · have H := H.1 c1
    exact ev_vret rfl dRun_smuggleAll_78 H
  · have H := H.2 c1
    refine ev_iload_n dRun_smuggleAll_24 rfl ?_
    refine ev_iconst (1) dRun_smuggleAll_25 (by decide) ?_
    refine ev_iadd dRun_smuggleAll_26 ?_
    refine ev_istore_n dRun_smuggleAll_27 (by decide) ?_
    exact ev_sub [(0, .ref o), (1, .int x1), (2, .int ((x1 + 1)))] rfl H
def fRun_smuggleAll_13_3 (D : va_G) (cA : FieldType → ClassId) (b : Nat) (E : State → Prop) (o : Nat) (n : Nat) (sh : Nat → qC) (Rf : Nat → Nat → Option Nat) (I : Nat → Nat → Int32) (L : Nat → Nat → Int64) (post : Option Value → qS → Prop) (x1 : Int32) (x2 : Int32) (uo_0 : Nat) : Prop :=
  (((I uo_0 3) ≤ x1 → post none (n, sh, Rf, I, L)) ∧ (¬ (I uo_0 3) ≤ x1 → Ev (qGG D cA b E) mRun_smuggleAll 3 (0, 0) 28 [(0, .ref o), (1, .int x1), (2, .int ((x1 + 1)))] [] (n, sh, Rf, I, L) post))
set_option maxHeartbeats 4000000 in
set_option maxRecDepth 20000 in
theorem sRun_smuggleAll_13_3 {D : va_G} {cA : FieldType → ClassId} {b : Nat} {E : State → Prop} (o : Nat) (n : Nat) (sh : Nat → qC) (Rf : Nat → Nat → Option Nat) (I : Nat → Nat → Int32) (L : Nat → Nat → Int64) (post : Option Value → qS → Prop) (x1 : Int32) (x2 : Int32) (uo_0 : Nat) (hok : q_ok (qGG D cA b E)) (hw : WfRun (qGG D cA b E) n sh Rf o) (huo_0 : Rf o 0 = some uo_0) (hwuo_0 : WfLand (qGG D cA b E) n sh Rf uo_0) (H : fRun_smuggleAll_13_3 D cA b E o n sh Rf I L post x1 x2 uo_0) : Ev (qGG D cA b E) mRun_smuggleAll 3 (0, 0) 13 [(0, .ref o), (1, .int x1), (2, .int x2)] [] (n, sh, Rf, I, L) post := by
  unfold fRun_smuggleAll_13_3 at H
  refine ev_iload_n dRun_smuggleAll_13 rfl ?_
  refine ev_aload_n dRun_smuggleAll_14 rfl ?_
  refine ev_getR hok fk_Run_12 (woRun hw) (fun _ _ _ => rfl) huo_0 dRun_smuggleAll_15 ?_
  refine ev_getI hok fk_Run_374 (woLand hwuo_0) (fun _ _ _ => rfl) dRun_smuggleAll_18 ?_
  refine ev_icmp_ge 78 dRun_smuggleAll_21 (by decide) (fun c1 => ?_) (fun c1 => ?_)
  · have H := H.1 c1
    exact ev_vret rfl dRun_smuggleAll_78 H
  · have H := H.2 c1
    refine ev_iload_n dRun_smuggleAll_24 rfl ?_
    refine ev_iconst (1) dRun_smuggleAll_25 (by decide) ?_
    refine ev_iadd dRun_smuggleAll_26 ?_
    refine ev_istore_n dRun_smuggleAll_27 (by decide) ?_
    exact ev_sub [(0, .ref o), (1, .int x1), (2, .int ((x1 + 1)))] rfl H
def fRun_smuggleAll_0 (D : va_G) (cA : FieldType → ClassId) (b : Nat) (E : State → Prop) (o : Nat) (n : Nat) (sh : Nat → qC) (Rf : Nat → Nat → Option Nat) (I : Nat → Nat → Int32) (L : Nat → Nat → Int64) (post : Option Value → qS → Prop) (uo_0 : Nat) : Prop :=
  Ev (qGG D cA b E) mArrays_fill_53178 0 (0, 0) 0 (lv_args 0 [.ref (((o + 24) + 5)), .int 0]) [] (n, sh, Rf, I, L) (fun v τ => ∃ (I3 : Nat → Nat → Int32) (L4 : Nat → Nat → Int64), v = none ∧ τ = (n, sh, Rf, I3, L4) ∧ Ev (qGG D cA b E) mRun_smuggleAll 3 (0, 0) 13 [(0, .ref o), (1, .int 0)] [] (n, sh, Rf, I3, L4) post)
set_option maxHeartbeats 4000000 in
set_option maxRecDepth 20000 in
theorem sRun_smuggleAll_0 {D : va_G} {cA : FieldType → ClassId} {b : Nat} {E : State → Prop} (o : Nat) (n : Nat) (sh : Nat → qC) (Rf : Nat → Nat → Option Nat) (I : Nat → Nat → Int32) (L : Nat → Nat → Int64) (post : Option Value → qS → Prop) (uo_0 : Nat) (hok : q_ok (qGG D cA b E)) (hw : WfRun (qGG D cA b E) n sh Rf o) (huo_0 : Rf o 0 = some uo_0) (hwuo_0 : WfLand (qGG D cA b E) n sh Rf uo_0) (H : fRun_smuggleAll_0 D cA b E o n sh Rf I L post uo_0) : Ev (qGG D cA b E) mRun_smuggleAll 3 (0, 0) 0 [(0, .ref o)] [] (n, sh, Rf, I, L) post := by
  unfold fRun_smuggleAll_0 at H
  refine ev_aload_n dRun_smuggleAll_0 rfl ?_
  refine ev_getR hok fk_Run_35 (woRun hw) (fun _ _ _ => rfl) (wrRun_3 hw) dRun_smuggleAll_1 ?_
  refine ev_getR hok fk_Run_456 (woRealm (wsRun_3 hw)) (fun _ _ _ => rfl) (wrRealm_4 (wsRun_3 hw)) dRun_smuggleAll_4 ?_
  refine ev_iconst (0) dRun_smuggleAll_7 (by decide) ?_
  refine ev_callS [.ref (((o + 24) + 5)), .int 0] [] (B' := (0, 0)) (B'' := (0, 0)) hok mmArrays_fill_53178 mk_Run_171 rfl (Nat.le_of_ble_eq_true rfl) rfl (Nat.le_of_ble_eq_true rfl) dRun_smuggleAll_8 rfl (by decide) H (fun v τ p1 => ?_)
  obtain ⟨I3, L4, rfl, rfl, H⟩ := p1
  refine ev_iconst (0) dRun_smuggleAll_11 (by decide) ?_
  refine ev_istore_n dRun_smuggleAll_12 (by decide) ?_
  exact ev_sub [(0, .ref o), (1, .int 0)] rfl H
def fRun_townFor_103 (D : va_G) (cA : FieldType → ClassId) (b : Nat) (E : State → Prop) (o : Nat) (n : Nat) (sh : Nat → qC) (Rf : Nat → Nat → Option Nat) (I : Nat → Nat → Int32) (L : Nat → Nat → Int64) (post : Option Value → qS → Prop) (x1 : Int32) (x2 : Int32) (x3 : Int32) (x4 : Int32) (uo_0 : Nat) : Prop :=
  Ev (qGG D cA b E) mRun_townFor 3 (0, 0) 11 [(0, .ref o), (1, .int x1), (2, .int x2), (3, .int ((x3 + Int32.ofInt 1))), (4, .int x4)] [] (n, sh, Rf, I, L) post
set_option maxHeartbeats 4000000 in
set_option maxRecDepth 20000 in
theorem sRun_townFor_103 {D : va_G} {cA : FieldType → ClassId} {b : Nat} {E : State → Prop} (o : Nat) (n : Nat) (sh : Nat → qC) (Rf : Nat → Nat → Option Nat) (I : Nat → Nat → Int32) (L : Nat → Nat → Int64) (post : Option Value → qS → Prop) (x1 : Int32) (x2 : Int32) (x3 : Int32) (x4 : Int32) (uo_0 : Nat) (hok : q_ok (qGG D cA b E)) (hw : WfRun (qGG D cA b E) n sh Rf o) (huo_0 : Rf o 0 = some uo_0) (hwuo_0 : WfLand (qGG D cA b E) n sh Rf uo_0) (H : fRun_townFor_103 D cA b E o n sh Rf I L post x1 x2 x3 x4 uo_0) : Ev (qGG D cA b E) mRun_townFor 3 (0, 0) 103 [(0, .ref o), (1, .int x1), (2, .int x2), (3, .int x3), (4, .int x4)] [] (n, sh, Rf, I, L) post := by
  unfold fRun_townFor_103 at H
  refine ev_iinc dRun_townFor_103 rfl (by decide) ?_
  refine ev_goto 11 dRun_townFor_106 (by decide) ?_
  exact ev_sub [(0, .ref o), (1, .int x1), (2, .int x2), (3, .int ((x3 + Int32.ofInt 1))), (4, .int x4)] rfl H
def fRun_townFor_103_3 (D : va_G) (cA : FieldType → ClassId) (b : Nat) (E : State → Prop) (o : Nat) (n : Nat) (sh : Nat → qC) (Rf : Nat → Nat → Option Nat) (I : Nat → Nat → Int32) (L : Nat → Nat → Int64) (post : Option Value → qS → Prop) (x1 : Int32) (x2 : Int32) (x3 : Int32) (x4 : Int32) (x5 : Int64) (uo_0 : Nat) : Prop :=
  Ev (qGG D cA b E) mRun_townFor 3 (0, 0) 11 [(0, .ref o), (1, .int x1), (2, .int x2), (3, .int ((x3 + Int32.ofInt 1))), (4, .int x4), (5, .long x5)] [] (n, sh, Rf, I, L) post
set_option maxHeartbeats 4000000 in
set_option maxRecDepth 20000 in
theorem sRun_townFor_103_3 {D : va_G} {cA : FieldType → ClassId} {b : Nat} {E : State → Prop} (o : Nat) (n : Nat) (sh : Nat → qC) (Rf : Nat → Nat → Option Nat) (I : Nat → Nat → Int32) (L : Nat → Nat → Int64) (post : Option Value → qS → Prop) (x1 : Int32) (x2 : Int32) (x3 : Int32) (x4 : Int32) (x5 : Int64) (uo_0 : Nat) (hok : q_ok (qGG D cA b E)) (hw : WfRun (qGG D cA b E) n sh Rf o) (huo_0 : Rf o 0 = some uo_0) (hwuo_0 : WfLand (qGG D cA b E) n sh Rf uo_0) (H : fRun_townFor_103_3 D cA b E o n sh Rf I L post x1 x2 x3 x4 x5 uo_0) : Ev (qGG D cA b E) mRun_townFor 3 (0, 0) 103 [(0, .ref o), (1, .int x1), (2, .int x2), (3, .int x3), (4, .int x4), (5, .long x5)] [] (n, sh, Rf, I, L) post := by
  unfold fRun_townFor_103_3 at H
  refine ev_iinc dRun_townFor_103 rfl (by decide) ?_
  refine ev_goto 11 dRun_townFor_106 (by decide) ?_
  exact ev_sub [(0, .ref o), (1, .int x1), (2, .int x2), (3, .int ((x3 + Int32.ofInt 1))), (4, .int x4), (5, .long x5)] rfl H
def fRun_townFor_11 (D : va_G) (cA : FieldType → ClassId) (b : Nat) (E : State → Prop) (o : Nat) (n : Nat) (sh : Nat → qC) (Rf : Nat → Nat → Option Nat) (I : Nat → Nat → Int32) (L : Nat → Nat → Int64) (post : Option Value → qS → Prop) (x1 : Int32) (x2 : Int32) (x3 : Int32) (uo_0 : Nat) : Prop :=
  (((I uo_0 3) ≤ x3 → post (some (.int x2)) (n, sh, Rf, I, L)) ∧ (¬ (I uo_0 3) ≤ x3 → vp_in x1 3 ∧ vp_in x3 5 ∧ Ev (qGG D cA b E) mLand_daysBetween 0 (0, 0) 0 (lv_args 0 [.ref uo_0, .int ((I (uo_0 + 6) (x1 : Int32).toNatClampNeg)), .int ((I (uo_0 + 10) (x3 : Int32).toNatClampNeg))]) [] (n, sh, Rf, I, L) (fun v τ => ∃ (r5 : Int32) (I6 : Nat → Nat → Int32) (L7 : Nat → Nat → Int64), v = some (.int r5) ∧ τ = (n, sh, Rf, I6, L7) ∧ ((r5 = (-1) → fRun_townFor_103 D cA b E o n sh Rf I6 L7 post x1 x2 x3 r5 uo_0) ∧ (¬ r5 = (-1) → vp_in x3 5 ∧ Ev (qGG D cA b E) mLand_serves 0 (0, 0) 0 (lv_args 0 [.ref uo_0, .int x1, .int ((I6 (uo_0 + 11) (x3 : Int32).toNatClampNeg))]) [] (n, sh, Rf, I6, L7) (fun v τ => ∃ (r11 : Int32) (I12 : Nat → Nat → Int32) (L13 : Nat → Nat → Int64), v = some (.int r11) ∧ τ = (n, sh, Rf, I12, L13) ∧ ((r11 = 0 → fRun_townFor_103 D cA b E o n sh Rf I12 L13 post x1 x2 x3 r5 uo_0) ∧ (¬ r11 = 0 → Ev (qGG D cA b E) mRun_worthIn 2 (0, 0) 0 (lv_args 0 [.ref o, .int x1, .int x3, .int r5]) [] (n, sh, Rf, I12, L13) (fun v τ => ∃ (r16 : Int64) (I17 : Nat → Nat → Int32) (L18 : Nat → Nat → Int64), v = some (.long r16) ∧ τ = (n, sh, Rf, I17, L18) ∧ (((lg_cmp r16 (L18 o 19)) ≤ 0 → fRun_townFor_103_3 D cA b E o n sh Rf I17 L18 post x1 x2 x3 r5 r16 uo_0) ∧ (¬ (lg_cmp r16 (L18 o 19)) ≤ 0 → ∀ L20 : Nat → Nat → Int64, q_u L18 o 19 r16 = L20 → fRun_townFor_103_3 D cA b E o n sh Rf I17 L20 post x1 x3 x3 r5 r16 uo_0)))))))))))
set_option maxHeartbeats 4000000 in
set_option maxRecDepth 20000 in
theorem sRun_townFor_11 {D : va_G} {cA : FieldType → ClassId} {b : Nat} {E : State → Prop} (o : Nat) (n : Nat) (sh : Nat → qC) (Rf : Nat → Nat → Option Nat) (I : Nat → Nat → Int32) (L : Nat → Nat → Int64) (post : Option Value → qS → Prop) (x1 : Int32) (x2 : Int32) (x3 : Int32) (uo_0 : Nat) (hok : q_ok (qGG D cA b E)) (hw : WfRun (qGG D cA b E) n sh Rf o) (huo_0 : Rf o 0 = some uo_0) (hwuo_0 : WfLand (qGG D cA b E) n sh Rf uo_0) (H : fRun_townFor_11 D cA b E o n sh Rf I L post x1 x2 x3 uo_0) : Ev (qGG D cA b E) mRun_townFor 3 (0, 0) 11 [(0, .ref o), (1, .int x1), (2, .int x2), (3, .int x3)] [] (n, sh, Rf, I, L) post := by
  unfold fRun_townFor_11 at H
  refine ev_iload_n dRun_townFor_11 rfl ?_
  refine ev_aload_n dRun_townFor_12 rfl ?_
  refine ev_getR hok fk_Run_12 (woRun hw) (fun _ _ _ => rfl) huo_0 dRun_townFor_13 ?_
  refine ev_getI hok fk_Run_374 (woLand hwuo_0) (fun _ _ _ => rfl) dRun_townFor_16 ?_
  refine ev_icmp_ge 109 dRun_townFor_19 (by decide) (fun c1 => ?_) (fun c1 => ?_)
  · have H := H.1 c1
    refine ev_iload_n dRun_townFor_109 rfl ?_
    exact ev_iret rfl dRun_townFor_110 H
  · have H := H.2 c1
    refine ev_aload_n dRun_townFor_22 rfl ?_
    refine ev_getR hok fk_Run_12 (woRun hw) (fun _ _ _ => rfl) huo_0 dRun_townFor_23 ?_
    refine ev_aload_n dRun_townFor_26 rfl ?_
    refine ev_getR hok fk_Run_12 (woRun hw) (fun _ _ _ => rfl) huo_0 dRun_townFor_27 ?_
    refine ev_getR hok fk_Run_355 (woLand hwuo_0) (fun _ _ _ => rfl) (wrLand_10 hwuo_0) dRun_townFor_30 ?_
    refine ev_iload_n dRun_townFor_33 rfl ?_
    obtain ⟨h2, H⟩ := H
    refine ev_iald hok (waLand_10 hwuo_0) h2 dRun_townFor_34 ?_
    refine ev_aload_n dRun_townFor_35 rfl ?_
    refine ev_getR hok fk_Run_12 (woRun hw) (fun _ _ _ => rfl) huo_0 dRun_townFor_36 ?_
    refine ev_getR hok fk_Run_358 (woLand hwuo_0) (fun _ _ _ => rfl) (wrLand_14 hwuo_0) dRun_townFor_39 ?_
    refine ev_iload_n dRun_townFor_42 rfl ?_
    obtain ⟨h3, H⟩ := H
    refine ev_iald hok (waLand_14 hwuo_0) h3 dRun_townFor_43 ?_
    refine ev_callV [.int ((I (uo_0 + 6) (x1 : Int32).toNatClampNeg)), .int ((I (uo_0 + 10) (x3 : Int32).toNatClampNeg))] [] (B' := (0, 0)) (B'' := (0, 0)) hok mmLand_daysBetween mk_Run_361 (ci := 1) rfl rfl (woLand hwuo_0) rfl (Nat.le_of_ble_eq_true rfl) rfl (Nat.le_of_ble_eq_true rfl) dRun_townFor_44 rfl (by decide) H (fun v τ p4 => ?_)
    obtain ⟨r5, I6, L7, rfl, rfl, H⟩ := p4
    refine ev_istore dRun_townFor_47 (by decide) ?_
    refine ev_iload dRun_townFor_49 rfl ?_
    refine ev_iconst (-1) dRun_townFor_51 (by decide) ?_
    refine ev_icmp_eq 103 dRun_townFor_52 (by decide) (fun c8 => ?_) (fun c8 => ?_)
    · have H := H.1 c8
      exact ev_sub [(0, .ref o), (1, .int x1), (2, .int x2), (3, .int x3), (4, .int r5)] rfl (sRun_townFor_103 o n sh Rf I6 L7 post x1 x2 x3 r5 uo_0 hok hw huo_0 hwuo_0 H)
    · have H := H.2 c8
      refine ev_aload_n dRun_townFor_55 rfl ?_
      refine ev_getR hok fk_Run_12 (woRun hw) (fun _ _ _ => rfl) huo_0 dRun_townFor_56 ?_
      refine ev_iload_n dRun_townFor_59 rfl ?_
      refine ev_aload_n dRun_townFor_60 rfl ?_
      refine ev_getR hok fk_Run_12 (woRun hw) (fun _ _ _ => rfl) huo_0 dRun_townFor_61 ?_
      refine ev_getR hok fk_Run_377 (woLand hwuo_0) (fun _ _ _ => rfl) (wrLand_15 hwuo_0) dRun_townFor_64 ?_
      refine ev_iload_n dRun_townFor_67 rfl ?_
      obtain ⟨h9, H⟩ := H
      refine ev_iald hok (waLand_15 hwuo_0) h9 dRun_townFor_68 ?_
      refine ev_callV [.int x1, .int ((I6 (uo_0 + 11) (x3 : Int32).toNatClampNeg))] [] (B' := (0, 0)) (B'' := (0, 0)) hok mmLand_serves mk_Run_380 (ci := 1) rfl rfl (woLand hwuo_0) rfl (Nat.le_of_ble_eq_true rfl) rfl (Nat.le_of_ble_eq_true rfl) dRun_townFor_69 rfl (by decide) H (fun v τ p10 => ?_)
      obtain ⟨r11, I12, L13, rfl, rfl, H⟩ := p10
      refine ev_if_eq 103 dRun_townFor_72 (by decide) (fun c14 => ?_) (fun c14 => ?_)
      · have H := H.1 c14
        exact ev_sub [(0, .ref o), (1, .int x1), (2, .int x2), (3, .int x3), (4, .int r5)] rfl (sRun_townFor_103 o n sh Rf I12 L13 post x1 x2 x3 r5 uo_0 hok hw huo_0 hwuo_0 H)
      · have H := H.2 c14
        refine ev_aload_n dRun_townFor_75 rfl ?_
        refine ev_iload_n dRun_townFor_76 rfl ?_
        refine ev_iload_n dRun_townFor_77 rfl ?_
        refine ev_iload dRun_townFor_78 rfl ?_
        refine ev_callV [.int x1, .int x3, .int r5] [] (B' := (0, 0)) (B'' := (0, 0)) hok mmRun_worthIn mk_Run_384 (ci := 7) rfl rfl (woRun hw) rfl (Nat.le_of_ble_eq_true rfl) rfl (Nat.le_of_ble_eq_true rfl) dRun_townFor_80 rfl (by decide) H (fun v τ p15 => ?_)
        obtain ⟨r16, I17, L18, rfl, rfl, H⟩ := p15
        refine ev_lstore dRun_townFor_83 (by decide) ?_
        refine ev_lload dRun_townFor_85 rfl ?_
        refine ev_aload_n dRun_townFor_87 rfl ?_
        refine ev_getL hok fk_Run_106 (woRun hw) (fun _ _ _ => rfl) dRun_townFor_88 ?_
        refine ev_lcmp dRun_townFor_91 ?_
        refine ev_if_le 103 dRun_townFor_92 (by decide) (fun c19 => ?_) (fun c19 => ?_)
        · have H := H.1 c19
          exact ev_sub [(0, .ref o), (1, .int x1), (2, .int x2), (3, .int x3), (4, .int r5), (5, .long r16)] rfl (sRun_townFor_103_3 o n sh Rf I17 L18 post x1 x2 x3 r5 r16 uo_0 hok hw huo_0 hwuo_0 H)
        · have H := H.2 c19
          refine ev_iload_n dRun_townFor_95 rfl ?_
          refine ev_istore_n dRun_townFor_96 (by decide) ?_
          refine ev_aload_n dRun_townFor_97 rfl ?_
          refine ev_lload dRun_townFor_98 rfl ?_
          refine ev_putL hok fk_Run_106 (woRun hw) (fun _ _ _ => rfl) rfl rfl dRun_townFor_100 ?_
          generalize eL20 : q_u L18 o 19 r16 = L20
          have H := H L20 eL20
          exact ev_sub [(0, .ref o), (1, .int x1), (2, .int x3), (3, .int x3), (4, .int r5), (5, .long r16)] rfl (sRun_townFor_103_3 o n sh Rf I17 L20 post x1 x3 x3 r5 r16 uo_0 hok hw huo_0 hwuo_0 H)
def fRun_townFor_11_4 (D : va_G) (cA : FieldType → ClassId) (b : Nat) (E : State → Prop) (o : Nat) (n : Nat) (sh : Nat → qC) (Rf : Nat → Nat → Option Nat) (I : Nat → Nat → Int32) (L : Nat → Nat → Int64) (post : Option Value → qS → Prop) (x1 : Int32) (x2 : Int32) (x3 : Int32) (x4 : Int32) (uo_0 : Nat) : Prop :=
  (((I uo_0 3) ≤ x3 → post (some (.int x2)) (n, sh, Rf, I, L)) ∧ (¬ (I uo_0 3) ≤ x3 → vp_in x1 3 ∧ vp_in x3 5 ∧ Ev (qGG D cA b E) mLand_daysBetween 0 (0, 0) 0 (lv_args 0 [.ref uo_0, .int ((I (uo_0 + 6) (x1 : Int32).toNatClampNeg)), .int ((I (uo_0 + 10) (x3 : Int32).toNatClampNeg))]) [] (n, sh, Rf, I, L) (fun v τ => ∃ (r5 : Int32) (I6 : Nat → Nat → Int32) (L7 : Nat → Nat → Int64), v = some (.int r5) ∧ τ = (n, sh, Rf, I6, L7) ∧ ((r5 = (-1) → fRun_townFor_103 D cA b E o n sh Rf I6 L7 post x1 x2 x3 r5 uo_0) ∧ (¬ r5 = (-1) → vp_in x3 5 ∧ Ev (qGG D cA b E) mLand_serves 0 (0, 0) 0 (lv_args 0 [.ref uo_0, .int x1, .int ((I6 (uo_0 + 11) (x3 : Int32).toNatClampNeg))]) [] (n, sh, Rf, I6, L7) (fun v τ => ∃ (r11 : Int32) (I12 : Nat → Nat → Int32) (L13 : Nat → Nat → Int64), v = some (.int r11) ∧ τ = (n, sh, Rf, I12, L13) ∧ ((r11 = 0 → fRun_townFor_103 D cA b E o n sh Rf I12 L13 post x1 x2 x3 r5 uo_0) ∧ (¬ r11 = 0 → Ev (qGG D cA b E) mRun_worthIn 2 (0, 0) 0 (lv_args 0 [.ref o, .int x1, .int x3, .int r5]) [] (n, sh, Rf, I12, L13) (fun v τ => ∃ (r16 : Int64) (I17 : Nat → Nat → Int32) (L18 : Nat → Nat → Int64), v = some (.long r16) ∧ τ = (n, sh, Rf, I17, L18) ∧ (((lg_cmp r16 (L18 o 19)) ≤ 0 → fRun_townFor_103_3 D cA b E o n sh Rf I17 L18 post x1 x2 x3 r5 r16 uo_0) ∧ (¬ (lg_cmp r16 (L18 o 19)) ≤ 0 → ∀ L20 : Nat → Nat → Int64, q_u L18 o 19 r16 = L20 → fRun_townFor_103_3 D cA b E o n sh Rf I17 L20 post x1 x3 x3 r5 r16 uo_0)))))))))))
set_option maxHeartbeats 4000000 in
set_option maxRecDepth 20000 in
theorem sRun_townFor_11_4 {D : va_G} {cA : FieldType → ClassId} {b : Nat} {E : State → Prop} (o : Nat) (n : Nat) (sh : Nat → qC) (Rf : Nat → Nat → Option Nat) (I : Nat → Nat → Int32) (L : Nat → Nat → Int64) (post : Option Value → qS → Prop) (x1 : Int32) (x2 : Int32) (x3 : Int32) (x4 : Int32) (uo_0 : Nat) (hok : q_ok (qGG D cA b E)) (hw : WfRun (qGG D cA b E) n sh Rf o) (huo_0 : Rf o 0 = some uo_0) (hwuo_0 : WfLand (qGG D cA b E) n sh Rf uo_0) (H : fRun_townFor_11_4 D cA b E o n sh Rf I L post x1 x2 x3 x4 uo_0) : Ev (qGG D cA b E) mRun_townFor 3 (0, 0) 11 [(0, .ref o), (1, .int x1), (2, .int x2), (3, .int x3), (4, .int x4)] [] (n, sh, Rf, I, L) post := by
  unfold fRun_townFor_11_4 at H
  refine ev_iload_n dRun_townFor_11 rfl ?_
  refine ev_aload_n dRun_townFor_12 rfl ?_
  refine ev_getR hok fk_Run_12 (woRun hw) (fun _ _ _ => rfl) huo_0 dRun_townFor_13 ?_
  refine ev_getI hok fk_Run_374 (woLand hwuo_0) (fun _ _ _ => rfl) dRun_townFor_16 ?_
  refine ev_icmp_ge 109 dRun_townFor_19 (by decide) (fun c1 => ?_) (fun c1 => ?_)
  · have H := H.1 c1
    refine ev_iload_n dRun_townFor_109 rfl ?_
    exact ev_iret rfl dRun_townFor_110 H
  · have H := H.2 c1
    refine ev_aload_n dRun_townFor_22 rfl ?_
    refine ev_getR hok fk_Run_12 (woRun hw) (fun _ _ _ => rfl) huo_0 dRun_townFor_23 ?_
    refine ev_aload_n dRun_townFor_26 rfl ?_
    refine ev_getR hok fk_Run_12 (woRun hw) (fun _ _ _ => rfl) huo_0 dRun_townFor_27 ?_
    refine ev_getR hok fk_Run_355 (woLand hwuo_0) (fun _ _ _ => rfl) (wrLand_10 hwuo_0) dRun_townFor_30 ?_
    refine ev_iload_n dRun_townFor_33 rfl ?_
    obtain ⟨h2, H⟩ := H
    refine ev_iald hok (waLand_10 hwuo_0) h2 dRun_townFor_34 ?_
    refine ev_aload_n dRun_townFor_35 rfl ?_
    refine ev_getR hok fk_Run_12 (woRun hw) (fun _ _ _ => rfl) huo_0 dRun_townFor_36 ?_
    refine ev_getR hok fk_Run_358 (woLand hwuo_0) (fun _ _ _ => rfl) (wrLand_14 hwuo_0) dRun_townFor_39 ?_
    refine ev_iload_n dRun_townFor_42 rfl ?_
    obtain ⟨h3, H⟩ := H
    refine ev_iald hok (waLand_14 hwuo_0) h3 dRun_townFor_43 ?_
    refine ev_callV [.int ((I (uo_0 + 6) (x1 : Int32).toNatClampNeg)), .int ((I (uo_0 + 10) (x3 : Int32).toNatClampNeg))] [] (B' := (0, 0)) (B'' := (0, 0)) hok mmLand_daysBetween mk_Run_361 (ci := 1) rfl rfl (woLand hwuo_0) rfl (Nat.le_of_ble_eq_true rfl) rfl (Nat.le_of_ble_eq_true rfl) dRun_townFor_44 rfl (by decide) H (fun v τ p4 => ?_)
    obtain ⟨r5, I6, L7, rfl, rfl, H⟩ := p4
    refine ev_istore dRun_townFor_47 (by decide) ?_
    refine ev_iload dRun_townFor_49 rfl ?_
    refine ev_iconst (-1) dRun_townFor_51 (by decide) ?_
    refine ev_icmp_eq 103 dRun_townFor_52 (by decide) (fun c8 => ?_) (fun c8 => ?_)
    · have H := H.1 c8
      exact ev_sub [(0, .ref o), (1, .int x1), (2, .int x2), (3, .int x3), (4, .int r5)] rfl (sRun_townFor_103 o n sh Rf I6 L7 post x1 x2 x3 r5 uo_0 hok hw huo_0 hwuo_0 H)
    · have H := H.2 c8
      refine ev_aload_n dRun_townFor_55 rfl ?_
      refine ev_getR hok fk_Run_12 (woRun hw) (fun _ _ _ => rfl) huo_0 dRun_townFor_56 ?_
      refine ev_iload_n dRun_townFor_59 rfl ?_
      refine ev_aload_n dRun_townFor_60 rfl ?_
      refine ev_getR hok fk_Run_12 (woRun hw) (fun _ _ _ => rfl) huo_0 dRun_townFor_61 ?_
      refine ev_getR hok fk_Run_377 (woLand hwuo_0) (fun _ _ _ => rfl) (wrLand_15 hwuo_0) dRun_townFor_64 ?_
      refine ev_iload_n dRun_townFor_67 rfl ?_
      obtain ⟨h9, H⟩ := H
      refine ev_iald hok (waLand_15 hwuo_0) h9 dRun_townFor_68 ?_
      refine ev_callV [.int x1, .int ((I6 (uo_0 + 11) (x3 : Int32).toNatClampNeg))] [] (B' := (0, 0)) (B'' := (0, 0)) hok mmLand_serves mk_Run_380 (ci := 1) rfl rfl (woLand hwuo_0) rfl (Nat.le_of_ble_eq_true rfl) rfl (Nat.le_of_ble_eq_true rfl) dRun_townFor_69 rfl (by decide) H (fun v τ p10 => ?_)
      obtain ⟨r11, I12, L13, rfl, rfl, H⟩ := p10
      refine ev_if_eq 103 dRun_townFor_72 (by decide) (fun c14 => ?_) (fun c14 => ?_)
      · have H := H.1 c14
        exact ev_sub [(0, .ref o), (1, .int x1), (2, .int x2), (3, .int x3), (4, .int r5)] rfl (sRun_townFor_103 o n sh Rf I12 L13 post x1 x2 x3 r5 uo_0 hok hw huo_0 hwuo_0 H)
      · have H := H.2 c14
        refine ev_aload_n dRun_townFor_75 rfl ?_
        refine ev_iload_n dRun_townFor_76 rfl ?_
        refine ev_iload_n dRun_townFor_77 rfl ?_
        refine ev_iload dRun_townFor_78 rfl ?_
        refine ev_callV [.int x1, .int x3, .int r5] [] (B' := (0, 0)) (B'' := (0, 0)) hok mmRun_worthIn mk_Run_384 (ci := 7) rfl rfl (woRun hw) rfl (Nat.le_of_ble_eq_true rfl) rfl (Nat.le_of_ble_eq_true rfl) dRun_townFor_80 rfl (by decide) H (fun v τ p15 => ?_)
        obtain ⟨r16, I17, L18, rfl, rfl, H⟩ := p15
        refine ev_lstore dRun_townFor_83 (by decide) ?_
        refine ev_lload dRun_townFor_85 rfl ?_
        refine ev_aload_n dRun_townFor_87 rfl ?_
        refine ev_getL hok fk_Run_106 (woRun hw) (fun _ _ _ => rfl) dRun_townFor_88 ?_
        refine ev_lcmp dRun_townFor_91 ?_
        refine ev_if_le 103 dRun_townFor_92 (by decide) (fun c19 => ?_) (fun c19 => ?_)
        · have H := H.1 c19
          exact ev_sub [(0, .ref o), (1, .int x1), (2, .int x2), (3, .int x3), (4, .int r5), (5, .long r16)] rfl (sRun_townFor_103_3 o n sh Rf I17 L18 post x1 x2 x3 r5 r16 uo_0 hok hw huo_0 hwuo_0 H)
        · have H := H.2 c19
          refine ev_iload_n dRun_townFor_95 rfl ?_
          refine ev_istore_n dRun_townFor_96 (by decide) ?_
          refine ev_aload_n dRun_townFor_97 rfl ?_
          refine ev_lload dRun_townFor_98 rfl ?_
          refine ev_putL hok fk_Run_106 (woRun hw) (fun _ _ _ => rfl) rfl rfl dRun_townFor_100 ?_
          generalize eL20 : q_u L18 o 19 r16 = L20
          have H := H L20 eL20
          exact ev_sub [(0, .ref o), (1, .int x1), (2, .int x3), (3, .int x3), (4, .int r5), (5, .long r16)] rfl (sRun_townFor_103_3 o n sh Rf I17 L20 post x1 x3 x3 r5 r16 uo_0 hok hw huo_0 hwuo_0 H)
def fRun_townFor_11_5 (D : va_G) (cA : FieldType → ClassId) (b : Nat) (E : State → Prop) (o : Nat) (n : Nat) (sh : Nat → qC) (Rf : Nat → Nat → Option Nat) (I : Nat → Nat → Int32) (L : Nat → Nat → Int64) (post : Option Value → qS → Prop) (x1 : Int32) (x2 : Int32) (x3 : Int32) (x4 : Int32) (x5 : Int64) (uo_0 : Nat) : Prop :=
  (((I uo_0 3) ≤ x3 → post (some (.int x2)) (n, sh, Rf, I, L)) ∧ (¬ (I uo_0 3) ≤ x3 → vp_in x1 3 ∧ vp_in x3 5 ∧ Ev (qGG D cA b E) mLand_daysBetween 0 (0, 0) 0 (lv_args 0 [.ref uo_0, .int ((I (uo_0 + 6) (x1 : Int32).toNatClampNeg)), .int ((I (uo_0 + 10) (x3 : Int32).toNatClampNeg))]) [] (n, sh, Rf, I, L) (fun v τ => ∃ (r5 : Int32) (I6 : Nat → Nat → Int32) (L7 : Nat → Nat → Int64), v = some (.int r5) ∧ τ = (n, sh, Rf, I6, L7) ∧ ((r5 = (-1) → fRun_townFor_103_3 D cA b E o n sh Rf I6 L7 post x1 x2 x3 r5 x5 uo_0) ∧ (¬ r5 = (-1) → vp_in x3 5 ∧ Ev (qGG D cA b E) mLand_serves 0 (0, 0) 0 (lv_args 0 [.ref uo_0, .int x1, .int ((I6 (uo_0 + 11) (x3 : Int32).toNatClampNeg))]) [] (n, sh, Rf, I6, L7) (fun v τ => ∃ (r11 : Int32) (I12 : Nat → Nat → Int32) (L13 : Nat → Nat → Int64), v = some (.int r11) ∧ τ = (n, sh, Rf, I12, L13) ∧ ((r11 = 0 → fRun_townFor_103_3 D cA b E o n sh Rf I12 L13 post x1 x2 x3 r5 x5 uo_0) ∧ (¬ r11 = 0 → Ev (qGG D cA b E) mRun_worthIn 2 (0, 0) 0 (lv_args 0 [.ref o, .int x1, .int x3, .int r5]) [] (n, sh, Rf, I12, L13) (fun v τ => ∃ (r16 : Int64) (I17 : Nat → Nat → Int32) (L18 : Nat → Nat → Int64), v = some (.long r16) ∧ τ = (n, sh, Rf, I17, L18) ∧ (((lg_cmp r16 (L18 o 19)) ≤ 0 → fRun_townFor_103_3 D cA b E o n sh Rf I17 L18 post x1 x2 x3 r5 r16 uo_0) ∧ (¬ (lg_cmp r16 (L18 o 19)) ≤ 0 → ∀ L20 : Nat → Nat → Int64, q_u L18 o 19 r16 = L20 → fRun_townFor_103_3 D cA b E o n sh Rf I17 L20 post x1 x3 x3 r5 r16 uo_0)))))))))))
set_option maxHeartbeats 4000000 in
set_option maxRecDepth 20000 in
theorem sRun_townFor_11_5 {D : va_G} {cA : FieldType → ClassId} {b : Nat} {E : State → Prop} (o : Nat) (n : Nat) (sh : Nat → qC) (Rf : Nat → Nat → Option Nat) (I : Nat → Nat → Int32) (L : Nat → Nat → Int64) (post : Option Value → qS → Prop) (x1 : Int32) (x2 : Int32) (x3 : Int32) (x4 : Int32) (x5 : Int64) (uo_0 : Nat) (hok : q_ok (qGG D cA b E)) (hw : WfRun (qGG D cA b E) n sh Rf o) (huo_0 : Rf o 0 = some uo_0) (hwuo_0 : WfLand (qGG D cA b E) n sh Rf uo_0) (H : fRun_townFor_11_5 D cA b E o n sh Rf I L post x1 x2 x3 x4 x5 uo_0) : Ev (qGG D cA b E) mRun_townFor 3 (0, 0) 11 [(0, .ref o), (1, .int x1), (2, .int x2), (3, .int x3), (4, .int x4), (5, .long x5)] [] (n, sh, Rf, I, L) post := by
  unfold fRun_townFor_11_5 at H
  refine ev_iload_n dRun_townFor_11 rfl ?_
  refine ev_aload_n dRun_townFor_12 rfl ?_
  refine ev_getR hok fk_Run_12 (woRun hw) (fun _ _ _ => rfl) huo_0 dRun_townFor_13 ?_
  refine ev_getI hok fk_Run_374 (woLand hwuo_0) (fun _ _ _ => rfl) dRun_townFor_16 ?_
  refine ev_icmp_ge 109 dRun_townFor_19 (by decide) (fun c1 => ?_) (fun c1 => ?_)
  · have H := H.1 c1
    refine ev_iload_n dRun_townFor_109 rfl ?_
    exact ev_iret rfl dRun_townFor_110 H
  · have H := H.2 c1
    refine ev_aload_n dRun_townFor_22 rfl ?_
    refine ev_getR hok fk_Run_12 (woRun hw) (fun _ _ _ => rfl) huo_0 dRun_townFor_23 ?_
    refine ev_aload_n dRun_townFor_26 rfl ?_
    refine ev_getR hok fk_Run_12 (woRun hw) (fun _ _ _ => rfl) huo_0 dRun_townFor_27 ?_
    refine ev_getR hok fk_Run_355 (woLand hwuo_0) (fun _ _ _ => rfl) (wrLand_10 hwuo_0) dRun_townFor_30 ?_
    refine ev_iload_n dRun_townFor_33 rfl ?_
    obtain ⟨h2, H⟩ := H
    refine ev_iald hok (waLand_10 hwuo_0) h2 dRun_townFor_34 ?_
    refine ev_aload_n dRun_townFor_35 rfl ?_
    refine ev_getR hok fk_Run_12 (woRun hw) (fun _ _ _ => rfl) huo_0 dRun_townFor_36 ?_
    refine ev_getR hok fk_Run_358 (woLand hwuo_0) (fun _ _ _ => rfl) (wrLand_14 hwuo_0) dRun_townFor_39 ?_
    refine ev_iload_n dRun_townFor_42 rfl ?_
    obtain ⟨h3, H⟩ := H
    refine ev_iald hok (waLand_14 hwuo_0) h3 dRun_townFor_43 ?_
    refine ev_callV [.int ((I (uo_0 + 6) (x1 : Int32).toNatClampNeg)), .int ((I (uo_0 + 10) (x3 : Int32).toNatClampNeg))] [] (B' := (0, 0)) (B'' := (0, 0)) hok mmLand_daysBetween mk_Run_361 (ci := 1) rfl rfl (woLand hwuo_0) rfl (Nat.le_of_ble_eq_true rfl) rfl (Nat.le_of_ble_eq_true rfl) dRun_townFor_44 rfl (by decide) H (fun v τ p4 => ?_)
    obtain ⟨r5, I6, L7, rfl, rfl, H⟩ := p4
    refine ev_istore dRun_townFor_47 (by decide) ?_
    refine ev_iload dRun_townFor_49 rfl ?_
    refine ev_iconst (-1) dRun_townFor_51 (by decide) ?_
    refine ev_icmp_eq 103 dRun_townFor_52 (by decide) (fun c8 => ?_) (fun c8 => ?_)
    · have H := H.1 c8
      exact ev_sub [(0, .ref o), (1, .int x1), (2, .int x2), (3, .int x3), (4, .int r5), (5, .long x5)] rfl (sRun_townFor_103_3 o n sh Rf I6 L7 post x1 x2 x3 r5 x5 uo_0 hok hw huo_0 hwuo_0 H)
    · have H := H.2 c8
      refine ev_aload_n dRun_townFor_55 rfl ?_
      refine ev_getR hok fk_Run_12 (woRun hw) (fun _ _ _ => rfl) huo_0 dRun_townFor_56 ?_
      refine ev_iload_n dRun_townFor_59 rfl ?_
      refine ev_aload_n dRun_townFor_60 rfl ?_
      refine ev_getR hok fk_Run_12 (woRun hw) (fun _ _ _ => rfl) huo_0 dRun_townFor_61 ?_
      refine ev_getR hok fk_Run_377 (woLand hwuo_0) (fun _ _ _ => rfl) (wrLand_15 hwuo_0) dRun_townFor_64 ?_
      refine ev_iload_n dRun_townFor_67 rfl ?_
      obtain ⟨h9, H⟩ := H
      refine ev_iald hok (waLand_15 hwuo_0) h9 dRun_townFor_68 ?_
      refine ev_callV [.int x1, .int ((I6 (uo_0 + 11) (x3 : Int32).toNatClampNeg))] [] (B' := (0, 0)) (B'' := (0, 0)) hok mmLand_serves mk_Run_380 (ci := 1) rfl rfl (woLand hwuo_0) rfl (Nat.le_of_ble_eq_true rfl) rfl (Nat.le_of_ble_eq_true rfl) dRun_townFor_69 rfl (by decide) H (fun v τ p10 => ?_)
      obtain ⟨r11, I12, L13, rfl, rfl, H⟩ := p10
      refine ev_if_eq 103 dRun_townFor_72 (by decide) (fun c14 => ?_) (fun c14 => ?_)
      · have H := H.1 c14
        exact ev_sub [(0, .ref o), (1, .int x1), (2, .int x2), (3, .int x3), (4, .int r5), (5, .long x5)] rfl (sRun_townFor_103_3 o n sh Rf I12 L13 post x1 x2 x3 r5 x5 uo_0 hok hw huo_0 hwuo_0 H)
      · have H := H.2 c14
        refine ev_aload_n dRun_townFor_75 rfl ?_
        refine ev_iload_n dRun_townFor_76 rfl ?_
        refine ev_iload_n dRun_townFor_77 rfl ?_
        refine ev_iload dRun_townFor_78 rfl ?_
        refine ev_callV [.int x1, .int x3, .int r5] [] (B' := (0, 0)) (B'' := (0, 0)) hok mmRun_worthIn mk_Run_384 (ci := 7) rfl rfl (woRun hw) rfl (Nat.le_of_ble_eq_true rfl) rfl (Nat.le_of_ble_eq_true rfl) dRun_townFor_80 rfl (by decide) H (fun v τ p15 => ?_)
        obtain ⟨r16, I17, L18, rfl, rfl, H⟩ := p15
        refine ev_lstore dRun_townFor_83 (by decide) ?_
        refine ev_lload dRun_townFor_85 rfl ?_
        refine ev_aload_n dRun_townFor_87 rfl ?_
        refine ev_getL hok fk_Run_106 (woRun hw) (fun _ _ _ => rfl) dRun_townFor_88 ?_
        refine ev_lcmp dRun_townFor_91 ?_
        refine ev_if_le 103 dRun_townFor_92 (by decide) (fun c19 => ?_) (fun c19 => ?_)
        · have H := H.1 c19
          exact ev_sub [(0, .ref o), (1, .int x1), (2, .int x2), (3, .int x3), (4, .int r5), (5, .long r16)] rfl (sRun_townFor_103_3 o n sh Rf I17 L18 post x1 x2 x3 r5 r16 uo_0 hok hw huo_0 hwuo_0 H)
        · have H := H.2 c19
          refine ev_iload_n dRun_townFor_95 rfl ?_
          refine ev_istore_n dRun_townFor_96 (by decide) ?_
          refine ev_aload_n dRun_townFor_97 rfl ?_
          refine ev_lload dRun_townFor_98 rfl ?_
          refine ev_putL hok fk_Run_106 (woRun hw) (fun _ _ _ => rfl) rfl rfl dRun_townFor_100 ?_
          generalize eL20 : q_u L18 o 19 r16 = L20
          have H := H L20 eL20
          exact ev_sub [(0, .ref o), (1, .int x1), (2, .int x3), (3, .int x3), (4, .int r5), (5, .long r16)] rfl (sRun_townFor_103_3 o n sh Rf I17 L20 post x1 x3 x3 r5 r16 uo_0 hok hw huo_0 hwuo_0 H)
def fRun_townFor_0 (D : va_G) (cA : FieldType → ClassId) (b : Nat) (E : State → Prop) (o : Nat) (n : Nat) (sh : Nat → qC) (Rf : Nat → Nat → Option Nat) (I : Nat → Nat → Int32) (L : Nat → Nat → Int64) (post : Option Value → qS → Prop) (x1 : Int32) (uo_0 : Nat) : Prop :=
  ∀ L1 : Nat → Nat → Int64, q_u L o 19 (-1000000000000) = L1 → Ev (qGG D cA b E) mRun_townFor 3 (0, 0) 11 [(0, .ref o), (1, .int x1), (2, .int ((-1))), (3, .int 0)] [] (n, sh, Rf, I, L1) post
set_option maxHeartbeats 4000000 in
set_option maxRecDepth 20000 in
theorem sRun_townFor_0 {D : va_G} {cA : FieldType → ClassId} {b : Nat} {E : State → Prop} (o : Nat) (n : Nat) (sh : Nat → qC) (Rf : Nat → Nat → Option Nat) (I : Nat → Nat → Int32) (L : Nat → Nat → Int64) (post : Option Value → qS → Prop) (x1 : Int32) (uo_0 : Nat) (hok : q_ok (qGG D cA b E)) (hw : WfRun (qGG D cA b E) n sh Rf o) (huo_0 : Rf o 0 = some uo_0) (hwuo_0 : WfLand (qGG D cA b E) n sh Rf uo_0) (H : fRun_townFor_0 D cA b E o n sh Rf I L post x1 uo_0) : Ev (qGG D cA b E) mRun_townFor 3 (0, 0) 0 [(0, .ref o), (1, .int x1)] [] (n, sh, Rf, I, L) post := by
  unfold fRun_townFor_0 at H
  refine ev_iconst (-1) dRun_townFor_0 (by decide) ?_
  refine ev_istore_n dRun_townFor_1 (by decide) ?_
  refine ev_aload_n dRun_townFor_2 rfl ?_
  refine ev_ldc2 (-1000000000000) dRun_townFor_3 (q_t3 106 (by decide +kernel) rfl) ?_
  refine ev_putL hok fk_Run_106 (woRun hw) (fun _ _ _ => rfl) rfl rfl dRun_townFor_6 ?_
  generalize eL1 : q_u L o 19 (-1000000000000) = L1
  have H := H L1 eL1
  refine ev_iconst (0) dRun_townFor_9 (by decide) ?_
  refine ev_istore_n dRun_townFor_10 (by decide) ?_
  exact ev_sub [(0, .ref o), (1, .int x1), (2, .int ((-1))), (3, .int 0)] rfl H
def fWay_weighCarrying_142 (D : va_G) (cA : FieldType → ClassId) (b : Nat) (E : State → Prop) (o : Nat) (n : Nat) (sh : Nat → qC) (Rf : Nat → Nat → Option Nat) (I : Nat → Nat → Int32) (L : Nat → Nat → Int64) (post : Option Value → qS → Prop) (x1 : Nat) (x2 : Int32) (x3 : Int32) (x4 : Int32) (x5 : Int32) (x6 : Int32) (x7 : Int32) (ux1_0 : Nat) : Prop :=
  Ev (qGG D cA b E) mWay_weighCarrying 3 (0, 0) 16 [(0, .ref o), (1, .ref x1), (2, .int x2), (3, .int x3), (4, .int ((x4 + Int32.ofInt 1))), (5, .int x5), (6, .int x6), (7, .int x7)] [] (n, sh, Rf, I, L) post
set_option maxHeartbeats 4000000 in
set_option maxRecDepth 20000 in
theorem sWay_weighCarrying_142 {D : va_G} {cA : FieldType → ClassId} {b : Nat} {E : State → Prop} (o : Nat) (n : Nat) (sh : Nat → qC) (Rf : Nat → Nat → Option Nat) (I : Nat → Nat → Int32) (L : Nat → Nat → Int64) (post : Option Value → qS → Prop) (x1 : Nat) (x2 : Int32) (x3 : Int32) (x4 : Int32) (x5 : Int32) (x6 : Int32) (x7 : Int32) (ux1_0 : Nat) (hok : q_ok (qGG D cA b E)) (hw : WfWay (qGG D cA b E) n sh Rf o) (hw1 : WfRun (qGG D cA b E) n sh Rf x1) (hux1_0 : Rf x1 0 = some ux1_0) (hwux1_0 : WfLand (qGG D cA b E) n sh Rf ux1_0) (H : fWay_weighCarrying_142 D cA b E o n sh Rf I L post x1 x2 x3 x4 x5 x6 x7 ux1_0) : Ev (qGG D cA b E) mWay_weighCarrying 3 (0, 0) 142 [(0, .ref o), (1, .ref x1), (2, .int x2), (3, .int x3), (4, .int x4), (5, .int x5), (6, .int x6), (7, .int x7)] [] (n, sh, Rf, I, L) post := by
  unfold fWay_weighCarrying_142 at H
  refine ev_iinc dWay_weighCarrying_142 rfl (by decide) ?_
  refine ev_goto 16 dWay_weighCarrying_145 (by decide) ?_
  exact ev_sub [(0, .ref o), (1, .ref x1), (2, .int x2), (3, .int x3), (4, .int ((x4 + Int32.ofInt 1))), (5, .int x5), (6, .int x6), (7, .int x7)] rfl H
def fWay_weighCarrying_142_5 (D : va_G) (cA : FieldType → ClassId) (b : Nat) (E : State → Prop) (o : Nat) (n : Nat) (sh : Nat → qC) (Rf : Nat → Nat → Option Nat) (I : Nat → Nat → Int32) (L : Nat → Nat → Int64) (post : Option Value → qS → Prop) (x1 : Nat) (x2 : Int32) (x3 : Int32) (x4 : Int32) (x5 : Int32) (x6 : Int32) (x7 : Int32) (x8 : Int32) (ux1_0 : Nat) : Prop :=
  Ev (qGG D cA b E) mWay_weighCarrying 3 (0, 0) 16 [(0, .ref o), (1, .ref x1), (2, .int x2), (3, .int x3), (4, .int ((x4 + Int32.ofInt 1))), (5, .int x5), (6, .int x6), (7, .int x7), (8, .int x8)] [] (n, sh, Rf, I, L) post
set_option maxHeartbeats 4000000 in
set_option maxRecDepth 20000 in
theorem sWay_weighCarrying_142_5 {D : va_G} {cA : FieldType → ClassId} {b : Nat} {E : State → Prop} (o : Nat) (n : Nat) (sh : Nat → qC) (Rf : Nat → Nat → Option Nat) (I : Nat → Nat → Int32) (L : Nat → Nat → Int64) (post : Option Value → qS → Prop) (x1 : Nat) (x2 : Int32) (x3 : Int32) (x4 : Int32) (x5 : Int32) (x6 : Int32) (x7 : Int32) (x8 : Int32) (ux1_0 : Nat) (hok : q_ok (qGG D cA b E)) (hw : WfWay (qGG D cA b E) n sh Rf o) (hw1 : WfRun (qGG D cA b E) n sh Rf x1) (hux1_0 : Rf x1 0 = some ux1_0) (hwux1_0 : WfLand (qGG D cA b E) n sh Rf ux1_0) (H : fWay_weighCarrying_142_5 D cA b E o n sh Rf I L post x1 x2 x3 x4 x5 x6 x7 x8 ux1_0) : Ev (qGG D cA b E) mWay_weighCarrying 3 (0, 0) 142 [(0, .ref o), (1, .ref x1), (2, .int x2), (3, .int x3), (4, .int x4), (5, .int x5), (6, .int x6), (7, .int x7), (8, .int x8)] [] (n, sh, Rf, I, L) post := by
  unfold fWay_weighCarrying_142_5 at H
  refine ev_iinc dWay_weighCarrying_142 rfl (by decide) ?_
  refine ev_goto 16 dWay_weighCarrying_145 (by decide) ?_
  exact ev_sub [(0, .ref o), (1, .ref x1), (2, .int x2), (3, .int x3), (4, .int ((x4 + Int32.ofInt 1))), (5, .int x5), (6, .int x6), (7, .int x7), (8, .int x8)] rfl H
def fWay_weighCarrying_16 (D : va_G) (cA : FieldType → ClassId) (b : Nat) (E : State → Prop) (o : Nat) (n : Nat) (sh : Nat → qC) (Rf : Nat → Nat → Option Nat) (I : Nat → Nat → Int32) (L : Nat → Nat → Int64) (post : Option Value → qS → Prop) (x1 : Nat) (x2 : Int32) (x3 : Int32) (x4 : Int32) (ux1_0 : Nat) : Prop :=
  (((I ux1_0 3) ≤ x4 → Ev (qGG D cA b E) mWay_weighCarrying 3 (0, 0) 2 [(0, .ref o), (1, .ref x1), (2, .int x2), (3, .int ((x3 + Int32.ofInt 1))), (4, .int x4)] [] (n, sh, Rf, I, L) post) ∧ (¬ (I ux1_0 3) ≤ x4 → vp_in x4 5 ∧ vp_in x3 3 ∧ Ev (qGG D cA b E) mLand_daysBetween 0 (0, 0) 0 (lv_args 0 [.ref ux1_0, .int ((I (ux1_0 + 10) (x4 : Int32).toNatClampNeg)), .int ((I (ux1_0 + 3) (x3 : Int32).toNatClampNeg))]) [] (n, sh, Rf, I, L) (fun v τ => ∃ (r5 : Int32) (I6 : Nat → Nat → Int32) (L7 : Nat → Nat → Int64), v = some (.int r5) ∧ τ = (n, sh, Rf, I6, L7) ∧ Ev (qGG D cA b E) mRun_carryingCost 0 (0, 0) 0 (lv_args 0 [.ref x1, .int x4, .int r5]) [] (n, sh, Rf, I6, L7) (fun v τ => ∃ (r9 : Int32) (I10 : Nat → Nat → Int32) (L11 : Nat → Nat → Int64), v = some (.int r9) ∧ τ = (n, sh, Rf, I10, L11) ∧ Ev (qGG D cA b E) mWay_affordable 1 (0, 0) 0 (lv_args 0 [.ref x1, .int x2, .int r9]) [] (n, sh, Rf, I10, L11) (fun v τ => ∃ (r13 : Int32) (I14 : Nat → Nat → Int32) (L15 : Nat → Nat → Int64), v = some (.int r13) ∧ τ = (n, sh, Rf, I14, L15) ∧ vp_in x4 5 ∧ ∀ y17 : Int32, ((if ((I14 ((x1 + 24) + 6) (x4 : Int32).toNatClampNeg) / 10) < r13 then ((I14 ((x1 + 24) + 6) (x4 : Int32).toNatClampNeg) / 10) else r13) : Int32) = y17 → ((r5 = (-1) → fWay_weighCarrying_142 D cA b E o n sh Rf I14 L15 post x1 x2 x3 x4 r5 r9 y17 ux1_0) ∧ (¬ r5 = (-1) → ((y17 ≤ 0 → fWay_weighCarrying_142 D cA b E o n sh Rf I14 L15 post x1 x2 x3 x4 r5 r9 y17 ux1_0) ∧ (¬ y17 ≤ 0 → Ev (qGG D cA b E) mRun_rateAt 2 (0, 0) 0 (lv_args 0 [.ref x1, .int x3, .int r5]) [] (n, sh, Rf, I14, L15) (fun v τ => ∃ (r21 : Int32) (I22 : Nat → Nat → Int32) (L23 : Nat → Nat → Int64), v = some (.int r21) ∧ τ = (n, sh, Rf, I22, L23) ∧ Ev (qGG D cA b E) mWay_weigh 0 (0, 0) 0 (lv_args 0 [.ref o, .int 1, .int x3, .int x4, .int y17, .int ((y17 * r21)), .long (((y17 : Int32).toInt64 * (((r21 : Int32).toInt64 * (L23 o 7)) - (r9 : Int32).toInt64)))]) [] (n, sh, Rf, I22, L23) (fun v τ => ∃ (I26 : Nat → Nat → Int32) (L27 : Nat → Nat → Int64), v = none ∧ τ = (n, sh, Rf, I26, L27) ∧ fWay_weighCarrying_142_5 D cA b E o n sh Rf I26 L27 post x1 x2 x3 x4 r5 r9 y17 r21 ux1_0)))))))))))
set_option maxHeartbeats 4000000 in
set_option maxRecDepth 20000 in
theorem sWay_weighCarrying_16 {D : va_G} {cA : FieldType → ClassId} {b : Nat} {E : State → Prop} (o : Nat) (n : Nat) (sh : Nat → qC) (Rf : Nat → Nat → Option Nat) (I : Nat → Nat → Int32) (L : Nat → Nat → Int64) (post : Option Value → qS → Prop) (x1 : Nat) (x2 : Int32) (x3 : Int32) (x4 : Int32) (ux1_0 : Nat) (hok : q_ok (qGG D cA b E)) (hw : WfWay (qGG D cA b E) n sh Rf o) (hw1 : WfRun (qGG D cA b E) n sh Rf x1) (hux1_0 : Rf x1 0 = some ux1_0) (hwux1_0 : WfLand (qGG D cA b E) n sh Rf ux1_0) (H : fWay_weighCarrying_16 D cA b E o n sh Rf I L post x1 x2 x3 x4 ux1_0) : Ev (qGG D cA b E) mWay_weighCarrying 3 (0, 0) 16 [(0, .ref o), (1, .ref x1), (2, .int x2), (3, .int x3), (4, .int x4)] [] (n, sh, Rf, I, L) post := by
  unfold fWay_weighCarrying_16 at H
  refine ev_iload dWay_weighCarrying_16 rfl ?_
  refine ev_aload_n dWay_weighCarrying_18 rfl ?_
  refine ev_getR hok fk_Way_39 (woRun hw1) (fun _ _ _ => rfl) hux1_0 dWay_weighCarrying_19 ?_
  refine ev_getI hok fk_Way_92 (woLand hwux1_0) (fun _ _ _ => rfl) dWay_weighCarrying_22 ?_
  refine ev_icmp_ge 148 dWay_weighCarrying_25 (by decide) (fun c1 => ?_) (fun c1 => ?_)
  · have H := H.1 c1
    refine ev_iinc dWay_weighCarrying_148 rfl (by decide) ?_
    refine ev_goto 2 dWay_weighCarrying_151 (by decide) ?_
    exact ev_sub [(0, .ref o), (1, .ref x1), (2, .int x2), (3, .int ((x3 + Int32.ofInt 1))), (4, .int x4)] rfl H
  · have H := H.2 c1
    refine ev_aload_n dWay_weighCarrying_28 rfl ?_
    refine ev_getR hok fk_Way_39 (woRun hw1) (fun _ _ _ => rfl) hux1_0 dWay_weighCarrying_29 ?_
    refine ev_aload_n dWay_weighCarrying_32 rfl ?_
    refine ev_getR hok fk_Way_39 (woRun hw1) (fun _ _ _ => rfl) hux1_0 dWay_weighCarrying_33 ?_
    refine ev_getR hok fk_Way_95 (woLand hwux1_0) (fun _ _ _ => rfl) (wrLand_14 hwux1_0) dWay_weighCarrying_36 ?_
    refine ev_iload dWay_weighCarrying_39 rfl ?_
    obtain ⟨h2, H⟩ := H
    refine ev_iald hok (waLand_14 hwux1_0) h2 dWay_weighCarrying_41 ?_
    refine ev_aload_n dWay_weighCarrying_42 rfl ?_
    refine ev_getR hok fk_Way_39 (woRun hw1) (fun _ _ _ => rfl) hux1_0 dWay_weighCarrying_43 ?_
    refine ev_getR hok fk_Way_99 (woLand hwux1_0) (fun _ _ _ => rfl) (wrLand_7 hwux1_0) dWay_weighCarrying_46 ?_
    refine ev_iload_n dWay_weighCarrying_49 rfl ?_
    obtain ⟨h3, H⟩ := H
    refine ev_iald hok (waLand_7 hwux1_0) h3 dWay_weighCarrying_50 ?_
    refine ev_callV [.int ((I (ux1_0 + 10) (x4 : Int32).toNatClampNeg)), .int ((I (ux1_0 + 3) (x3 : Int32).toNatClampNeg))] [] (B' := (0, 0)) (B'' := (0, 0)) hok mmLand_daysBetween mk_Way_102 (ci := 1) rfl rfl (woLand hwux1_0) rfl (Nat.le_of_ble_eq_true rfl) rfl (Nat.le_of_ble_eq_true rfl) dWay_weighCarrying_51 rfl (by decide) H (fun v τ p4 => ?_)
    obtain ⟨r5, I6, L7, rfl, rfl, H⟩ := p4
    refine ev_istore dWay_weighCarrying_54 (by decide) ?_
    refine ev_aload_n dWay_weighCarrying_56 rfl ?_
    refine ev_iload dWay_weighCarrying_57 rfl ?_
    refine ev_iload dWay_weighCarrying_59 rfl ?_
    refine ev_callV [.int x4, .int r5] [] (B' := (0, 0)) (B'' := (0, 0)) hok mmRun_carryingCost mk_Way_106 (ci := 7) rfl rfl (woRun hw1) rfl (Nat.le_of_ble_eq_true rfl) rfl (Nat.le_of_ble_eq_true rfl) dWay_weighCarrying_61 rfl (by decide) H (fun v τ p8 => ?_)
    obtain ⟨r9, I10, L11, rfl, rfl, H⟩ := p8
    refine ev_istore dWay_weighCarrying_64 (by decide) ?_
    refine ev_aload_n dWay_weighCarrying_66 rfl ?_
    refine ev_iload_n dWay_weighCarrying_67 rfl ?_
    refine ev_iload dWay_weighCarrying_68 rfl ?_
    refine ev_callS [.ref x1, .int x2, .int r9] [] (B' := (0, 0)) (B'' := (0, 0)) hok mmWay_affordable mk_Way_109 rfl (Nat.le_of_ble_eq_true rfl) rfl (Nat.le_of_ble_eq_true rfl) dWay_weighCarrying_70 rfl (by decide) H (fun v τ p12 => ?_)
    obtain ⟨r13, I14, L15, rfl, rfl, H⟩ := p12
    refine ev_aload_n dWay_weighCarrying_73 rfl ?_
    refine ev_getR hok fk_Way_113 (woRun hw1) (fun _ _ _ => rfl) (wrRun_3 hw1) dWay_weighCarrying_74 ?_
    refine ev_getR hok fk_Way_117 (woRealm (wsRun_3 hw1)) (fun _ _ _ => rfl) (wrRealm_5 (wsRun_3 hw1)) dWay_weighCarrying_77 ?_
    refine ev_iload dWay_weighCarrying_80 rfl ?_
    obtain ⟨h16, H⟩ := H
    refine ev_iald hok (waRealm_5 (wsRun_3 hw1)) h16 dWay_weighCarrying_82 ?_
    refine ev_bipush (10) dWay_weighCarrying_83 (by decide) ?_
    refine ev_idiv dWay_weighCarrying_85 (by decide) ?_
    refine ev_mmin (by decide) (q_t6 80 (by decide +kernel) rfl) (q_t4 44 (by decide +kernel) rfl) (q_t1 19 (by decide +kernel) rfl) (q_t4 45 rfl rfl) (Nat.le_of_ble_eq_true rfl) dWay_weighCarrying_86 ?_
    generalize ey17 : ((if ((I14 ((x1 + 24) + 6) (x4 : Int32).toNatClampNeg) / 10) < r13 then ((I14 ((x1 + 24) + 6) (x4 : Int32).toNatClampNeg) / 10) else r13) : Int32) = y17
    have H := H y17 ey17
    refine ev_istore dWay_weighCarrying_89 (by decide) ?_
    refine ev_iload dWay_weighCarrying_91 rfl ?_
    refine ev_iconst (-1) dWay_weighCarrying_93 (by decide) ?_
    refine ev_icmp_eq 142 dWay_weighCarrying_94 (by decide) (fun c18 => ?_) (fun c18 => ?_)
    · have H := H.1 c18
      exact ev_sub [(0, .ref o), (1, .ref x1), (2, .int x2), (3, .int x3), (4, .int x4), (5, .int r5), (6, .int r9), (7, .int y17)] rfl (sWay_weighCarrying_142 o n sh Rf I14 L15 post x1 x2 x3 x4 r5 r9 y17 ux1_0 hok hw hw1 hux1_0 hwux1_0 H)
    · have H := H.2 c18
      refine ev_iload dWay_weighCarrying_97 rfl ?_
      refine ev_if_le 142 dWay_weighCarrying_99 (by decide) (fun c19 => ?_) (fun c19 => ?_)
      · have H := H.1 c19
        exact ev_sub [(0, .ref o), (1, .ref x1), (2, .int x2), (3, .int x3), (4, .int x4), (5, .int r5), (6, .int r9), (7, .int y17)] rfl (sWay_weighCarrying_142 o n sh Rf I14 L15 post x1 x2 x3 x4 r5 r9 y17 ux1_0 hok hw hw1 hux1_0 hwux1_0 H)
      · have H := H.2 c19
        refine ev_aload_n dWay_weighCarrying_102 rfl ?_
        refine ev_iload_n dWay_weighCarrying_103 rfl ?_
        refine ev_iload dWay_weighCarrying_104 rfl ?_
        refine ev_callV [.int x3, .int r5] [] (B' := (0, 0)) (B'' := (0, 0)) hok mmRun_rateAt mk_Way_124 (ci := 7) rfl rfl (woRun hw1) rfl (Nat.le_of_ble_eq_true rfl) rfl (Nat.le_of_ble_eq_true rfl) dWay_weighCarrying_106 rfl (by decide) H (fun v τ p20 => ?_)
        obtain ⟨r21, I22, L23, rfl, rfl, H⟩ := p20
        refine ev_istore dWay_weighCarrying_109 (by decide) ?_
        refine ev_aload_n dWay_weighCarrying_111 rfl ?_
        refine ev_iconst (1) dWay_weighCarrying_112 (by decide) ?_
        refine ev_iload_n dWay_weighCarrying_113 rfl ?_
        refine ev_iload dWay_weighCarrying_114 rfl ?_
        refine ev_iload dWay_weighCarrying_116 rfl ?_
        refine ev_iload dWay_weighCarrying_118 rfl ?_
        refine ev_iload dWay_weighCarrying_120 rfl ?_
        refine ev_imul dWay_weighCarrying_122 ?_
        refine ev_iload dWay_weighCarrying_123 rfl ?_
        refine ev_i2l dWay_weighCarrying_125 ?_
        refine ev_iload dWay_weighCarrying_126 rfl ?_
        refine ev_i2l dWay_weighCarrying_128 ?_
        refine ev_aload_n dWay_weighCarrying_129 rfl ?_
        refine ev_getL hok fk_Way_34 (woWay hw) (fun _ _ _ => rfl) dWay_weighCarrying_130 ?_
        refine ev_lmul dWay_weighCarrying_133 ?_
        refine ev_iload dWay_weighCarrying_134 rfl ?_
        refine ev_i2l dWay_weighCarrying_136 ?_
        refine ev_lsub dWay_weighCarrying_137 ?_
        refine ev_lmul dWay_weighCarrying_138 ?_
        refine ev_callV [.int 1, .int x3, .int x4, .int y17, .int ((y17 * r21)), .long (((y17 : Int32).toInt64 * (((r21 : Int32).toInt64 * (L23 o 7)) - (r9 : Int32).toInt64)))] [] (B' := (0, 0)) (B'' := (0, 0)) hok mmWay_weigh mk_Way_127 (ci := 10) rfl rfl (woWay hw) rfl (Nat.le_of_ble_eq_true rfl) rfl (Nat.le_of_ble_eq_true rfl) dWay_weighCarrying_139 rfl (by decide) H (fun v τ p24 => ?_)
        obtain ⟨I26, L27, rfl, rfl, H⟩ := p24
        exact ev_sub [(0, .ref o), (1, .ref x1), (2, .int x2), (3, .int x3), (4, .int x4), (5, .int r5), (6, .int r9), (7, .int y17), (8, .int r21)] rfl (sWay_weighCarrying_142_5 o n sh Rf I26 L27 post x1 x2 x3 x4 r5 r9 y17 r21 ux1_0 hok hw hw1 hux1_0 hwux1_0 H)
def fWay_weighCarrying_16_6 (D : va_G) (cA : FieldType → ClassId) (b : Nat) (E : State → Prop) (o : Nat) (n : Nat) (sh : Nat → qC) (Rf : Nat → Nat → Option Nat) (I : Nat → Nat → Int32) (L : Nat → Nat → Int64) (post : Option Value → qS → Prop) (x1 : Nat) (x2 : Int32) (x3 : Int32) (x4 : Int32) (x5 : Int32) (x6 : Int32) (x7 : Int32) (ux1_0 : Nat) : Prop :=
  (((I ux1_0 3) ≤ x4 → Ev (qGG D cA b E) mWay_weighCarrying 3 (0, 0) 2 [(0, .ref o), (1, .ref x1), (2, .int x2), (3, .int ((x3 + Int32.ofInt 1))), (4, .int x4), (5, .int x5), (6, .int x6), (7, .int x7)] [] (n, sh, Rf, I, L) post) ∧ (¬ (I ux1_0 3) ≤ x4 → vp_in x4 5 ∧ vp_in x3 3 ∧ Ev (qGG D cA b E) mLand_daysBetween 0 (0, 0) 0 (lv_args 0 [.ref ux1_0, .int ((I (ux1_0 + 10) (x4 : Int32).toNatClampNeg)), .int ((I (ux1_0 + 3) (x3 : Int32).toNatClampNeg))]) [] (n, sh, Rf, I, L) (fun v τ => ∃ (r5 : Int32) (I6 : Nat → Nat → Int32) (L7 : Nat → Nat → Int64), v = some (.int r5) ∧ τ = (n, sh, Rf, I6, L7) ∧ Ev (qGG D cA b E) mRun_carryingCost 0 (0, 0) 0 (lv_args 0 [.ref x1, .int x4, .int r5]) [] (n, sh, Rf, I6, L7) (fun v τ => ∃ (r9 : Int32) (I10 : Nat → Nat → Int32) (L11 : Nat → Nat → Int64), v = some (.int r9) ∧ τ = (n, sh, Rf, I10, L11) ∧ Ev (qGG D cA b E) mWay_affordable 1 (0, 0) 0 (lv_args 0 [.ref x1, .int x2, .int r9]) [] (n, sh, Rf, I10, L11) (fun v τ => ∃ (r13 : Int32) (I14 : Nat → Nat → Int32) (L15 : Nat → Nat → Int64), v = some (.int r13) ∧ τ = (n, sh, Rf, I14, L15) ∧ vp_in x4 5 ∧ ∀ y17 : Int32, ((if ((I14 ((x1 + 24) + 6) (x4 : Int32).toNatClampNeg) / 10) < r13 then ((I14 ((x1 + 24) + 6) (x4 : Int32).toNatClampNeg) / 10) else r13) : Int32) = y17 → ((r5 = (-1) → fWay_weighCarrying_142 D cA b E o n sh Rf I14 L15 post x1 x2 x3 x4 r5 r9 y17 ux1_0) ∧ (¬ r5 = (-1) → ((y17 ≤ 0 → fWay_weighCarrying_142 D cA b E o n sh Rf I14 L15 post x1 x2 x3 x4 r5 r9 y17 ux1_0) ∧ (¬ y17 ≤ 0 → Ev (qGG D cA b E) mRun_rateAt 2 (0, 0) 0 (lv_args 0 [.ref x1, .int x3, .int r5]) [] (n, sh, Rf, I14, L15) (fun v τ => ∃ (r21 : Int32) (I22 : Nat → Nat → Int32) (L23 : Nat → Nat → Int64), v = some (.int r21) ∧ τ = (n, sh, Rf, I22, L23) ∧ Ev (qGG D cA b E) mWay_weigh 0 (0, 0) 0 (lv_args 0 [.ref o, .int 1, .int x3, .int x4, .int y17, .int ((y17 * r21)), .long (((y17 : Int32).toInt64 * (((r21 : Int32).toInt64 * (L23 o 7)) - (r9 : Int32).toInt64)))]) [] (n, sh, Rf, I22, L23) (fun v τ => ∃ (I26 : Nat → Nat → Int32) (L27 : Nat → Nat → Int64), v = none ∧ τ = (n, sh, Rf, I26, L27) ∧ fWay_weighCarrying_142_5 D cA b E o n sh Rf I26 L27 post x1 x2 x3 x4 r5 r9 y17 r21 ux1_0)))))))))))
set_option maxHeartbeats 4000000 in
set_option maxRecDepth 20000 in
theorem sWay_weighCarrying_16_6 {D : va_G} {cA : FieldType → ClassId} {b : Nat} {E : State → Prop} (o : Nat) (n : Nat) (sh : Nat → qC) (Rf : Nat → Nat → Option Nat) (I : Nat → Nat → Int32) (L : Nat → Nat → Int64) (post : Option Value → qS → Prop) (x1 : Nat) (x2 : Int32) (x3 : Int32) (x4 : Int32) (x5 : Int32) (x6 : Int32) (x7 : Int32) (ux1_0 : Nat) (hok : q_ok (qGG D cA b E)) (hw : WfWay (qGG D cA b E) n sh Rf o) (hw1 : WfRun (qGG D cA b E) n sh Rf x1) (hux1_0 : Rf x1 0 = some ux1_0) (hwux1_0 : WfLand (qGG D cA b E) n sh Rf ux1_0) (H : fWay_weighCarrying_16_6 D cA b E o n sh Rf I L post x1 x2 x3 x4 x5 x6 x7 ux1_0) : Ev (qGG D cA b E) mWay_weighCarrying 3 (0, 0) 16 [(0, .ref o), (1, .ref x1), (2, .int x2), (3, .int x3), (4, .int x4), (5, .int x5), (6, .int x6), (7, .int x7)] [] (n, sh, Rf, I, L) post := by
  unfold fWay_weighCarrying_16_6 at H
  refine ev_iload dWay_weighCarrying_16 rfl ?_
  refine ev_aload_n dWay_weighCarrying_18 rfl ?_
  refine ev_getR hok fk_Way_39 (woRun hw1) (fun _ _ _ => rfl) hux1_0 dWay_weighCarrying_19 ?_
  refine ev_getI hok fk_Way_92 (woLand hwux1_0) (fun _ _ _ => rfl) dWay_weighCarrying_22 ?_
  refine ev_icmp_ge 148 dWay_weighCarrying_25 (by decide) (fun c1 => ?_) (fun c1 => ?_)
  · have H := H.1 c1
    refine ev_iinc dWay_weighCarrying_148 rfl (by decide) ?_
    refine ev_goto 2 dWay_weighCarrying_151 (by decide) ?_
    exact ev_sub [(0, .ref o), (1, .ref x1), (2, .int x2), (3, .int ((x3 + Int32.ofInt 1))), (4, .int x4), (5, .int x5), (6, .int x6), (7, .int x7)] rfl H
  · have H := H.2 c1
    refine ev_aload_n dWay_weighCarrying_28 rfl ?_
    refine ev_getR hok fk_Way_39 (woRun hw1) (fun _ _ _ => rfl) hux1_0 dWay_weighCarrying_29 ?_
    refine ev_aload_n dWay_weighCarrying_32 rfl ?_
    refine ev_getR hok fk_Way_39 (woRun hw1) (fun _ _ _ => rfl) hux1_0 dWay_weighCarrying_33 ?_
    refine ev_getR hok fk_Way_95 (woLand hwux1_0) (fun _ _ _ => rfl) (wrLand_14 hwux1_0) dWay_weighCarrying_36 ?_
    refine ev_iload dWay_weighCarrying_39 rfl ?_
    obtain ⟨h2, H⟩ := H
    refine ev_iald hok (waLand_14 hwux1_0) h2 dWay_weighCarrying_41 ?_
    refine ev_aload_n dWay_weighCarrying_42 rfl ?_
    refine ev_getR hok fk_Way_39 (woRun hw1) (fun _ _ _ => rfl) hux1_0 dWay_weighCarrying_43 ?_
    refine ev_getR hok fk_Way_99 (woLand hwux1_0) (fun _ _ _ => rfl) (wrLand_7 hwux1_0) dWay_weighCarrying_46 ?_
    refine ev_iload_n dWay_weighCarrying_49 rfl ?_
    obtain ⟨h3, H⟩ := H
    refine ev_iald hok (waLand_7 hwux1_0) h3 dWay_weighCarrying_50 ?_
    refine ev_callV [.int ((I (ux1_0 + 10) (x4 : Int32).toNatClampNeg)), .int ((I (ux1_0 + 3) (x3 : Int32).toNatClampNeg))] [] (B' := (0, 0)) (B'' := (0, 0)) hok mmLand_daysBetween mk_Way_102 (ci := 1) rfl rfl (woLand hwux1_0) rfl (Nat.le_of_ble_eq_true rfl) rfl (Nat.le_of_ble_eq_true rfl) dWay_weighCarrying_51 rfl (by decide) H (fun v τ p4 => ?_)
    obtain ⟨r5, I6, L7, rfl, rfl, H⟩ := p4
    refine ev_istore dWay_weighCarrying_54 (by decide) ?_
    refine ev_aload_n dWay_weighCarrying_56 rfl ?_
    refine ev_iload dWay_weighCarrying_57 rfl ?_
    refine ev_iload dWay_weighCarrying_59 rfl ?_
    refine ev_callV [.int x4, .int r5] [] (B' := (0, 0)) (B'' := (0, 0)) hok mmRun_carryingCost mk_Way_106 (ci := 7) rfl rfl (woRun hw1) rfl (Nat.le_of_ble_eq_true rfl) rfl (Nat.le_of_ble_eq_true rfl) dWay_weighCarrying_61 rfl (by decide) H (fun v τ p8 => ?_)
    obtain ⟨r9, I10, L11, rfl, rfl, H⟩ := p8
    refine ev_istore dWay_weighCarrying_64 (by decide) ?_
    refine ev_aload_n dWay_weighCarrying_66 rfl ?_
    refine ev_iload_n dWay_weighCarrying_67 rfl ?_
    refine ev_iload dWay_weighCarrying_68 rfl ?_
    refine ev_callS [.ref x1, .int x2, .int r9] [] (B' := (0, 0)) (B'' := (0, 0)) hok mmWay_affordable mk_Way_109 rfl (Nat.le_of_ble_eq_true rfl) rfl (Nat.le_of_ble_eq_true rfl) dWay_weighCarrying_70 rfl (by decide) H (fun v τ p12 => ?_)
    obtain ⟨r13, I14, L15, rfl, rfl, H⟩ := p12
    refine ev_aload_n dWay_weighCarrying_73 rfl ?_
    refine ev_getR hok fk_Way_113 (woRun hw1) (fun _ _ _ => rfl) (wrRun_3 hw1) dWay_weighCarrying_74 ?_
    refine ev_getR hok fk_Way_117 (woRealm (wsRun_3 hw1)) (fun _ _ _ => rfl) (wrRealm_5 (wsRun_3 hw1)) dWay_weighCarrying_77 ?_
    refine ev_iload dWay_weighCarrying_80 rfl ?_
    obtain ⟨h16, H⟩ := H
    refine ev_iald hok (waRealm_5 (wsRun_3 hw1)) h16 dWay_weighCarrying_82 ?_
    refine ev_bipush (10) dWay_weighCarrying_83 (by decide) ?_
    refine ev_idiv dWay_weighCarrying_85 (by decide) ?_
    refine ev_mmin (by decide) (q_t6 80 (by decide +kernel) rfl) (q_t4 44 (by decide +kernel) rfl) (q_t1 19 (by decide +kernel) rfl) (q_t4 45 rfl rfl) (Nat.le_of_ble_eq_true rfl) dWay_weighCarrying_86 ?_
    generalize ey17 : ((if ((I14 ((x1 + 24) + 6) (x4 : Int32).toNatClampNeg) / 10) < r13 then ((I14 ((x1 + 24) + 6) (x4 : Int32).toNatClampNeg) / 10) else r13) : Int32) = y17
    have H := H y17 ey17
    refine ev_istore dWay_weighCarrying_89 (by decide) ?_
    refine ev_iload dWay_weighCarrying_91 rfl ?_
    refine ev_iconst (-1) dWay_weighCarrying_93 (by decide) ?_
    refine ev_icmp_eq 142 dWay_weighCarrying_94 (by decide) (fun c18 => ?_) (fun c18 => ?_)
    · have H := H.1 c18
      exact ev_sub [(0, .ref o), (1, .ref x1), (2, .int x2), (3, .int x3), (4, .int x4), (5, .int r5), (6, .int r9), (7, .int y17)] rfl (sWay_weighCarrying_142 o n sh Rf I14 L15 post x1 x2 x3 x4 r5 r9 y17 ux1_0 hok hw hw1 hux1_0 hwux1_0 H)
    · have H := H.2 c18
      refine ev_iload dWay_weighCarrying_97 rfl ?_
      refine ev_if_le 142 dWay_weighCarrying_99 (by decide) (fun c19 => ?_) (fun c19 => ?_)
      · have H := H.1 c19
        exact ev_sub [(0, .ref o), (1, .ref x1), (2, .int x2), (3, .int x3), (4, .int x4), (5, .int r5), (6, .int r9), (7, .int y17)] rfl (sWay_weighCarrying_142 o n sh Rf I14 L15 post x1 x2 x3 x4 r5 r9 y17 ux1_0 hok hw hw1 hux1_0 hwux1_0 H)
      · have H := H.2 c19
        refine ev_aload_n dWay_weighCarrying_102 rfl ?_
        refine ev_iload_n dWay_weighCarrying_103 rfl ?_
        refine ev_iload dWay_weighCarrying_104 rfl ?_
        refine ev_callV [.int x3, .int r5] [] (B' := (0, 0)) (B'' := (0, 0)) hok mmRun_rateAt mk_Way_124 (ci := 7) rfl rfl (woRun hw1) rfl (Nat.le_of_ble_eq_true rfl) rfl (Nat.le_of_ble_eq_true rfl) dWay_weighCarrying_106 rfl (by decide) H (fun v τ p20 => ?_)
        obtain ⟨r21, I22, L23, rfl, rfl, H⟩ := p20
        refine ev_istore dWay_weighCarrying_109 (by decide) ?_
        refine ev_aload_n dWay_weighCarrying_111 rfl ?_
        refine ev_iconst (1) dWay_weighCarrying_112 (by decide) ?_
        refine ev_iload_n dWay_weighCarrying_113 rfl ?_
        refine ev_iload dWay_weighCarrying_114 rfl ?_
        refine ev_iload dWay_weighCarrying_116 rfl ?_
        refine ev_iload dWay_weighCarrying_118 rfl ?_
        refine ev_iload dWay_weighCarrying_120 rfl ?_
        refine ev_imul dWay_weighCarrying_122 ?_
        refine ev_iload dWay_weighCarrying_123 rfl ?_
        refine ev_i2l dWay_weighCarrying_125 ?_
        refine ev_iload dWay_weighCarrying_126 rfl ?_
        refine ev_i2l dWay_weighCarrying_128 ?_
        refine ev_aload_n dWay_weighCarrying_129 rfl ?_
        refine ev_getL hok fk_Way_34 (woWay hw) (fun _ _ _ => rfl) dWay_weighCarrying_130 ?_
        refine ev_lmul dWay_weighCarrying_133 ?_
        refine ev_iload dWay_weighCarrying_134 rfl ?_
        refine ev_i2l dWay_weighCarrying_136 ?_
        refine ev_lsub dWay_weighCarrying_137 ?_
        refine ev_lmul dWay_weighCarrying_138 ?_
        refine ev_callV [.int 1, .int x3, .int x4, .int y17, .int ((y17 * r21)), .long (((y17 : Int32).toInt64 * (((r21 : Int32).toInt64 * (L23 o 7)) - (r9 : Int32).toInt64)))] [] (B' := (0, 0)) (B'' := (0, 0)) hok mmWay_weigh mk_Way_127 (ci := 10) rfl rfl (woWay hw) rfl (Nat.le_of_ble_eq_true rfl) rfl (Nat.le_of_ble_eq_true rfl) dWay_weighCarrying_139 rfl (by decide) H (fun v τ p24 => ?_)
        obtain ⟨I26, L27, rfl, rfl, H⟩ := p24
        exact ev_sub [(0, .ref o), (1, .ref x1), (2, .int x2), (3, .int x3), (4, .int x4), (5, .int r5), (6, .int r9), (7, .int y17), (8, .int r21)] rfl (sWay_weighCarrying_142_5 o n sh Rf I26 L27 post x1 x2 x3 x4 r5 r9 y17 r21 ux1_0 hok hw hw1 hux1_0 hwux1_0 H)
def fWay_weighCarrying_16_7 (D : va_G) (cA : FieldType → ClassId) (b : Nat) (E : State → Prop) (o : Nat) (n : Nat) (sh : Nat → qC) (Rf : Nat → Nat → Option Nat) (I : Nat → Nat → Int32) (L : Nat → Nat → Int64) (post : Option Value → qS → Prop) (x1 : Nat) (x2 : Int32) (x3 : Int32) (x4 : Int32) (x5 : Int32) (x6 : Int32) (x7 : Int32) (x8 : Int32) (ux1_0 : Nat) : Prop :=
  (((I ux1_0 3) ≤ x4 → Ev (qGG D cA b E) mWay_weighCarrying 3 (0, 0) 2 [(0, .ref o), (1, .ref x1), (2, .int x2), (3, .int ((x3 + Int32.ofInt 1))), (4, .int x4), (5, .int x5), (6, .int x6), (7, .int x7), (8, .int x8)] [] (n, sh, Rf, I, L) post) ∧ (¬ (I ux1_0 3) ≤ x4 → vp_in x4 5 ∧ vp_in x3 3 ∧ Ev (qGG D cA b E) mLand_daysBetween 0 (0, 0) 0 (lv_args 0 [.ref ux1_0, .int ((I (ux1_0 + 10) (x4 : Int32).toNatClampNeg)), .int ((I (ux1_0 + 3) (x3 : Int32).toNatClampNeg))]) [] (n, sh, Rf, I, L) (fun v τ => ∃ (r5 : Int32) (I6 : Nat → Nat → Int32) (L7 : Nat → Nat → Int64), v = some (.int r5) ∧ τ = (n, sh, Rf, I6, L7) ∧ Ev (qGG D cA b E) mRun_carryingCost 0 (0, 0) 0 (lv_args 0 [.ref x1, .int x4, .int r5]) [] (n, sh, Rf, I6, L7) (fun v τ => ∃ (r9 : Int32) (I10 : Nat → Nat → Int32) (L11 : Nat → Nat → Int64), v = some (.int r9) ∧ τ = (n, sh, Rf, I10, L11) ∧ Ev (qGG D cA b E) mWay_affordable 1 (0, 0) 0 (lv_args 0 [.ref x1, .int x2, .int r9]) [] (n, sh, Rf, I10, L11) (fun v τ => ∃ (r13 : Int32) (I14 : Nat → Nat → Int32) (L15 : Nat → Nat → Int64), v = some (.int r13) ∧ τ = (n, sh, Rf, I14, L15) ∧ vp_in x4 5 ∧ ∀ y17 : Int32, ((if ((I14 ((x1 + 24) + 6) (x4 : Int32).toNatClampNeg) / 10) < r13 then ((I14 ((x1 + 24) + 6) (x4 : Int32).toNatClampNeg) / 10) else r13) : Int32) = y17 → ((r5 = (-1) → fWay_weighCarrying_142_5 D cA b E o n sh Rf I14 L15 post x1 x2 x3 x4 r5 r9 y17 x8 ux1_0) ∧ (¬ r5 = (-1) → ((y17 ≤ 0 → fWay_weighCarrying_142_5 D cA b E o n sh Rf I14 L15 post x1 x2 x3 x4 r5 r9 y17 x8 ux1_0) ∧ (¬ y17 ≤ 0 → Ev (qGG D cA b E) mRun_rateAt 2 (0, 0) 0 (lv_args 0 [.ref x1, .int x3, .int r5]) [] (n, sh, Rf, I14, L15) (fun v τ => ∃ (r21 : Int32) (I22 : Nat → Nat → Int32) (L23 : Nat → Nat → Int64), v = some (.int r21) ∧ τ = (n, sh, Rf, I22, L23) ∧ Ev (qGG D cA b E) mWay_weigh 0 (0, 0) 0 (lv_args 0 [.ref o, .int 1, .int x3, .int x4, .int y17, .int ((y17 * r21)), .long (((y17 : Int32).toInt64 * (((r21 : Int32).toInt64 * (L23 o 7)) - (r9 : Int32).toInt64)))]) [] (n, sh, Rf, I22, L23) (fun v τ => ∃ (I26 : Nat → Nat → Int32) (L27 : Nat → Nat → Int64), v = none ∧ τ = (n, sh, Rf, I26, L27) ∧ fWay_weighCarrying_142_5 D cA b E o n sh Rf I26 L27 post x1 x2 x3 x4 r5 r9 y17 r21 ux1_0)))))))))))
set_option maxHeartbeats 4000000 in
set_option maxRecDepth 20000 in
theorem sWay_weighCarrying_16_7 {D : va_G} {cA : FieldType → ClassId} {b : Nat} {E : State → Prop} (o : Nat) (n : Nat) (sh : Nat → qC) (Rf : Nat → Nat → Option Nat) (I : Nat → Nat → Int32) (L : Nat → Nat → Int64) (post : Option Value → qS → Prop) (x1 : Nat) (x2 : Int32) (x3 : Int32) (x4 : Int32) (x5 : Int32) (x6 : Int32) (x7 : Int32) (x8 : Int32) (ux1_0 : Nat) (hok : q_ok (qGG D cA b E)) (hw : WfWay (qGG D cA b E) n sh Rf o) (hw1 : WfRun (qGG D cA b E) n sh Rf x1) (hux1_0 : Rf x1 0 = some ux1_0) (hwux1_0 : WfLand (qGG D cA b E) n sh Rf ux1_0) (H : fWay_weighCarrying_16_7 D cA b E o n sh Rf I L post x1 x2 x3 x4 x5 x6 x7 x8 ux1_0) : Ev (qGG D cA b E) mWay_weighCarrying 3 (0, 0) 16 [(0, .ref o), (1, .ref x1), (2, .int x2), (3, .int x3), (4, .int x4), (5, .int x5), (6, .int x6), (7, .int x7), (8, .int x8)] [] (n, sh, Rf, I, L) post := by
  unfold fWay_weighCarrying_16_7 at H
  refine ev_iload dWay_weighCarrying_16 rfl ?_
  refine ev_aload_n dWay_weighCarrying_18 rfl ?_
  refine ev_getR hok fk_Way_39 (woRun hw1) (fun _ _ _ => rfl) hux1_0 dWay_weighCarrying_19 ?_
  refine ev_getI hok fk_Way_92 (woLand hwux1_0) (fun _ _ _ => rfl) dWay_weighCarrying_22 ?_
  refine ev_icmp_ge 148 dWay_weighCarrying_25 (by decide) (fun c1 => ?_) (fun c1 => ?_)
  · have H := H.1 c1
    refine ev_iinc dWay_weighCarrying_148 rfl (by decide) ?_
    refine ev_goto 2 dWay_weighCarrying_151 (by decide) ?_
    exact ev_sub [(0, .ref o), (1, .ref x1), (2, .int x2), (3, .int ((x3 + Int32.ofInt 1))), (4, .int x4), (5, .int x5), (6, .int x6), (7, .int x7), (8, .int x8)] rfl H
  · have H := H.2 c1
    refine ev_aload_n dWay_weighCarrying_28 rfl ?_
    refine ev_getR hok fk_Way_39 (woRun hw1) (fun _ _ _ => rfl) hux1_0 dWay_weighCarrying_29 ?_
    refine ev_aload_n dWay_weighCarrying_32 rfl ?_
    refine ev_getR hok fk_Way_39 (woRun hw1) (fun _ _ _ => rfl) hux1_0 dWay_weighCarrying_33 ?_
    refine ev_getR hok fk_Way_95 (woLand hwux1_0) (fun _ _ _ => rfl) (wrLand_14 hwux1_0) dWay_weighCarrying_36 ?_
    refine ev_iload dWay_weighCarrying_39 rfl ?_
    obtain ⟨h2, H⟩ := H
    refine ev_iald hok (waLand_14 hwux1_0) h2 dWay_weighCarrying_41 ?_
    refine ev_aload_n dWay_weighCarrying_42 rfl ?_
    refine ev_getR hok fk_Way_39 (woRun hw1) (fun _ _ _ => rfl) hux1_0 dWay_weighCarrying_43 ?_
    refine ev_getR hok fk_Way_99 (woLand hwux1_0) (fun _ _ _ => rfl) (wrLand_7 hwux1_0) dWay_weighCarrying_46 ?_
    refine ev_iload_n dWay_weighCarrying_49 rfl ?_
    obtain ⟨h3, H⟩ := H
    refine ev_iald hok (waLand_7 hwux1_0) h3 dWay_weighCarrying_50 ?_
    refine ev_callV [.int ((I (ux1_0 + 10) (x4 : Int32).toNatClampNeg)), .int ((I (ux1_0 + 3) (x3 : Int32).toNatClampNeg))] [] (B' := (0, 0)) (B'' := (0, 0)) hok mmLand_daysBetween mk_Way_102 (ci := 1) rfl rfl (woLand hwux1_0) rfl (Nat.le_of_ble_eq_true rfl) rfl (Nat.le_of_ble_eq_true rfl) dWay_weighCarrying_51 rfl (by decide) H (fun v τ p4 => ?_)
    obtain ⟨r5, I6, L7, rfl, rfl, H⟩ := p4
    refine ev_istore dWay_weighCarrying_54 (by decide) ?_
    refine ev_aload_n dWay_weighCarrying_56 rfl ?_
    refine ev_iload dWay_weighCarrying_57 rfl ?_
    refine ev_iload dWay_weighCarrying_59 rfl ?_
    refine ev_callV [.int x4, .int r5] [] (B' := (0, 0)) (B'' := (0, 0)) hok mmRun_carryingCost mk_Way_106 (ci := 7) rfl rfl (woRun hw1) rfl (Nat.le_of_ble_eq_true rfl) rfl (Nat.le_of_ble_eq_true rfl) dWay_weighCarrying_61 rfl (by decide) H (fun v τ p8 => ?_)
    obtain ⟨r9, I10, L11, rfl, rfl, H⟩ := p8
    refine ev_istore dWay_weighCarrying_64 (by decide) ?_
    refine ev_aload_n dWay_weighCarrying_66 rfl ?_
    refine ev_iload_n dWay_weighCarrying_67 rfl ?_
    refine ev_iload dWay_weighCarrying_68 rfl ?_
    refine ev_callS [.ref x1, .int x2, .int r9] [] (B' := (0, 0)) (B'' := (0, 0)) hok mmWay_affordable mk_Way_109 rfl (Nat.le_of_ble_eq_true rfl) rfl (Nat.le_of_ble_eq_true rfl) dWay_weighCarrying_70 rfl (by decide) H (fun v τ p12 => ?_)
    obtain ⟨r13, I14, L15, rfl, rfl, H⟩ := p12
    refine ev_aload_n dWay_weighCarrying_73 rfl ?_
    refine ev_getR hok fk_Way_113 (woRun hw1) (fun _ _ _ => rfl) (wrRun_3 hw1) dWay_weighCarrying_74 ?_
    refine ev_getR hok fk_Way_117 (woRealm (wsRun_3 hw1)) (fun _ _ _ => rfl) (wrRealm_5 (wsRun_3 hw1)) dWay_weighCarrying_77 ?_
    refine ev_iload dWay_weighCarrying_80 rfl ?_
    obtain ⟨h16, H⟩ := H
    refine ev_iald hok (waRealm_5 (wsRun_3 hw1)) h16 dWay_weighCarrying_82 ?_
    refine ev_bipush (10) dWay_weighCarrying_83 (by decide) ?_
    refine ev_idiv dWay_weighCarrying_85 (by decide) ?_
    refine ev_mmin (by decide) (q_t6 80 (by decide +kernel) rfl) (q_t4 44 (by decide +kernel) rfl) (q_t1 19 (by decide +kernel) rfl) (q_t4 45 rfl rfl) (Nat.le_of_ble_eq_true rfl) dWay_weighCarrying_86 ?_
    generalize ey17 : ((if ((I14 ((x1 + 24) + 6) (x4 : Int32).toNatClampNeg) / 10) < r13 then ((I14 ((x1 + 24) + 6) (x4 : Int32).toNatClampNeg) / 10) else r13) : Int32) = y17
    have H := H y17 ey17
    refine ev_istore dWay_weighCarrying_89 (by decide) ?_
    refine ev_iload dWay_weighCarrying_91 rfl ?_
    refine ev_iconst (-1) dWay_weighCarrying_93 (by decide) ?_
    refine ev_icmp_eq 142 dWay_weighCarrying_94 (by decide) (fun c18 => ?_) (fun c18 => ?_)
    · have H := H.1 c18
      exact ev_sub [(0, .ref o), (1, .ref x1), (2, .int x2), (3, .int x3), (4, .int x4), (5, .int r5), (6, .int r9), (7, .int y17), (8, .int x8)] rfl (sWay_weighCarrying_142_5 o n sh Rf I14 L15 post x1 x2 x3 x4 r5 r9 y17 x8 ux1_0 hok hw hw1 hux1_0 hwux1_0 H)
    · have H := H.2 c18
      refine ev_iload dWay_weighCarrying_97 rfl ?_
      refine ev_if_le 142 dWay_weighCarrying_99 (by decide) (fun c19 => ?_) (fun c19 => ?_)
      · have H := H.1 c19
        exact ev_sub [(0, .ref o), (1, .ref x1), (2, .int x2), (3, .int x3), (4, .int x4), (5, .int r5), (6, .int r9), (7, .int y17), (8, .int x8)] rfl (sWay_weighCarrying_142_5 o n sh Rf I14 L15 post x1 x2 x3 x4 r5 r9 y17 x8 ux1_0 hok hw hw1 hux1_0 hwux1_0 H)
      · have H := H.2 c19
        refine ev_aload_n dWay_weighCarrying_102 rfl ?_
        refine ev_iload_n dWay_weighCarrying_103 rfl ?_
        refine ev_iload dWay_weighCarrying_104 rfl ?_
        refine ev_callV [.int x3, .int r5] [] (B' := (0, 0)) (B'' := (0, 0)) hok mmRun_rateAt mk_Way_124 (ci := 7) rfl rfl (woRun hw1) rfl (Nat.le_of_ble_eq_true rfl) rfl (Nat.le_of_ble_eq_true rfl) dWay_weighCarrying_106 rfl (by decide) H (fun v τ p20 => ?_)
        obtain ⟨r21, I22, L23, rfl, rfl, H⟩ := p20
        refine ev_istore dWay_weighCarrying_109 (by decide) ?_
        refine ev_aload_n dWay_weighCarrying_111 rfl ?_
        refine ev_iconst (1) dWay_weighCarrying_112 (by decide) ?_
        refine ev_iload_n dWay_weighCarrying_113 rfl ?_
        refine ev_iload dWay_weighCarrying_114 rfl ?_
        refine ev_iload dWay_weighCarrying_116 rfl ?_
        refine ev_iload dWay_weighCarrying_118 rfl ?_
        refine ev_iload dWay_weighCarrying_120 rfl ?_
        refine ev_imul dWay_weighCarrying_122 ?_
        refine ev_iload dWay_weighCarrying_123 rfl ?_
        refine ev_i2l dWay_weighCarrying_125 ?_
        refine ev_iload dWay_weighCarrying_126 rfl ?_
        refine ev_i2l dWay_weighCarrying_128 ?_
        refine ev_aload_n dWay_weighCarrying_129 rfl ?_
        refine ev_getL hok fk_Way_34 (woWay hw) (fun _ _ _ => rfl) dWay_weighCarrying_130 ?_
        refine ev_lmul dWay_weighCarrying_133 ?_
        refine ev_iload dWay_weighCarrying_134 rfl ?_
        refine ev_i2l dWay_weighCarrying_136 ?_
        refine ev_lsub dWay_weighCarrying_137 ?_
        refine ev_lmul dWay_weighCarrying_138 ?_
        refine ev_callV [.int 1, .int x3, .int x4, .int y17, .int ((y17 * r21)), .long (((y17 : Int32).toInt64 * (((r21 : Int32).toInt64 * (L23 o 7)) - (r9 : Int32).toInt64)))] [] (B' := (0, 0)) (B'' := (0, 0)) hok mmWay_weigh mk_Way_127 (ci := 10) rfl rfl (woWay hw) rfl (Nat.le_of_ble_eq_true rfl) rfl (Nat.le_of_ble_eq_true rfl) dWay_weighCarrying_139 rfl (by decide) H (fun v τ p24 => ?_)
        obtain ⟨I26, L27, rfl, rfl, H⟩ := p24
        exact ev_sub [(0, .ref o), (1, .ref x1), (2, .int x2), (3, .int x3), (4, .int x4), (5, .int r5), (6, .int r9), (7, .int y17), (8, .int r21)] rfl (sWay_weighCarrying_142_5 o n sh Rf I26 L27 post x1 x2 x3 x4 r5 r9 y17 r21 ux1_0 hok hw hw1 hux1_0 hwux1_0 H)
def fWay_weighCarrying_2 (D : va_G) (cA : FieldType → ClassId) (b : Nat) (E : State → Prop) (o : Nat) (n : Nat) (sh : Nat → qC) (Rf : Nat → Nat → Option Nat) (I : Nat → Nat → Int32) (L : Nat → Nat → Int64) (post : Option Value → qS → Prop) (x1 : Nat) (x2 : Int32) (x3 : Int32) (ux1_0 : Nat) : Prop :=
  (((I ux1_0 1) ≤ x3 → post none (n, sh, Rf, I, L)) ∧ (¬ (I ux1_0 1) ≤ x3 → Ev (qGG D cA b E) mWay_weighCarrying 3 (0, 0) 16 [(0, .ref o), (1, .ref x1), (2, .int x2), (3, .int x3), (4, .int 0)] [] (n, sh, Rf, I, L) post))
set_option maxHeartbeats 4000000 in
set_option maxRecDepth 20000 in
theorem sWay_weighCarrying_2 {D : va_G} {cA : FieldType → ClassId} {b : Nat} {E : State → Prop} (o : Nat) (n : Nat) (sh : Nat → qC) (Rf : Nat → Nat → Option Nat) (I : Nat → Nat → Int32) (L : Nat → Nat → Int64) (post : Option Value → qS → Prop) (x1 : Nat) (x2 : Int32) (x3 : Int32) (ux1_0 : Nat) (hok : q_ok (qGG D cA b E)) (hw : WfWay (qGG D cA b E) n sh Rf o) (hw1 : WfRun (qGG D cA b E) n sh Rf x1) (hux1_0 : Rf x1 0 = some ux1_0) (hwux1_0 : WfLand (qGG D cA b E) n sh Rf ux1_0) (H : fWay_weighCarrying_2 D cA b E o n sh Rf I L post x1 x2 x3 ux1_0) : Ev (qGG D cA b E) mWay_weighCarrying 3 (0, 0) 2 [(0, .ref o), (1, .ref x1), (2, .int x2), (3, .int x3)] [] (n, sh, Rf, I, L) post := by
  unfold fWay_weighCarrying_2 at H
  refine ev_iload_n dWay_weighCarrying_2 rfl ?_
  refine ev_aload_n dWay_weighCarrying_3 rfl ?_
  refine ev_getR hok fk_Way_39 (woRun hw1) (fun _ _ _ => rfl) hux1_0 dWay_weighCarrying_4 ?_
  refine ev_getI hok fk_Way_89 (woLand hwux1_0) (fun _ _ _ => rfl) dWay_weighCarrying_7 ?_
  refine ev_icmp_ge 154 dWay_weighCarrying_10 (by decide) (fun c1 => ?_) (fun c1 => ?_)
  · have H := H.1 c1
    exact ev_vret rfl dWay_weighCarrying_154 H
  · have H := H.2 c1
    refine ev_iconst (0) dWay_weighCarrying_13 (by decide) ?_
    refine ev_istore dWay_weighCarrying_14 (by decide) ?_
    exact ev_sub [(0, .ref o), (1, .ref x1), (2, .int x2), (3, .int x3), (4, .int 0)] rfl H
def fWay_weighCarrying_2_3 (D : va_G) (cA : FieldType → ClassId) (b : Nat) (E : State → Prop) (o : Nat) (n : Nat) (sh : Nat → qC) (Rf : Nat → Nat → Option Nat) (I : Nat → Nat → Int32) (L : Nat → Nat → Int64) (post : Option Value → qS → Prop) (x1 : Nat) (x2 : Int32) (x3 : Int32) (x4 : Int32) (ux1_0 : Nat) : Prop :=
  (((I ux1_0 1) ≤ x3 → post none (n, sh, Rf, I, L)) ∧ (¬ (I ux1_0 1) ≤ x3 → Ev (qGG D cA b E) mWay_weighCarrying 3 (0, 0) 16 [(0, .ref o), (1, .ref x1), (2, .int x2), (3, .int x3), (4, .int 0)] [] (n, sh, Rf, I, L) post))
set_option maxHeartbeats 4000000 in
set_option maxRecDepth 20000 in
theorem sWay_weighCarrying_2_3 {D : va_G} {cA : FieldType → ClassId} {b : Nat} {E : State → Prop} (o : Nat) (n : Nat) (sh : Nat → qC) (Rf : Nat → Nat → Option Nat) (I : Nat → Nat → Int32) (L : Nat → Nat → Int64) (post : Option Value → qS → Prop) (x1 : Nat) (x2 : Int32) (x3 : Int32) (x4 : Int32) (ux1_0 : Nat) (hok : q_ok (qGG D cA b E)) (hw : WfWay (qGG D cA b E) n sh Rf o) (hw1 : WfRun (qGG D cA b E) n sh Rf x1) (hux1_0 : Rf x1 0 = some ux1_0) (hwux1_0 : WfLand (qGG D cA b E) n sh Rf ux1_0) (H : fWay_weighCarrying_2_3 D cA b E o n sh Rf I L post x1 x2 x3 x4 ux1_0) : Ev (qGG D cA b E) mWay_weighCarrying 3 (0, 0) 2 [(0, .ref o), (1, .ref x1), (2, .int x2), (3, .int x3), (4, .int x4)] [] (n, sh, Rf, I, L) post := by
  unfold fWay_weighCarrying_2_3 at H
  refine ev_iload_n dWay_weighCarrying_2 rfl ?_
  refine ev_aload_n dWay_weighCarrying_3 rfl ?_
  refine ev_getR hok fk_Way_39 (woRun hw1) (fun _ _ _ => rfl) hux1_0 dWay_weighCarrying_4 ?_
  refine ev_getI hok fk_Way_89 (woLand hwux1_0) (fun _ _ _ => rfl) dWay_weighCarrying_7 ?_
  refine ev_icmp_ge 154 dWay_weighCarrying_10 (by decide) (fun c1 => ?_) (fun c1 => ?_)
  · have H := H.1 c1
    exact ev_vret rfl dWay_weighCarrying_154 H
  · have H := H.2 c1
    refine ev_iconst (0) dWay_weighCarrying_13 (by decide) ?_
    refine ev_istore dWay_weighCarrying_14 (by decide) ?_
    exact ev_sub [(0, .ref o), (1, .ref x1), (2, .int x2), (3, .int x3), (4, .int 0)] rfl H
def fWay_weighCarrying_2_8 (D : va_G) (cA : FieldType → ClassId) (b : Nat) (E : State → Prop) (o : Nat) (n : Nat) (sh : Nat → qC) (Rf : Nat → Nat → Option Nat) (I : Nat → Nat → Int32) (L : Nat → Nat → Int64) (post : Option Value → qS → Prop) (x1 : Nat) (x2 : Int32) (x3 : Int32) (x4 : Int32) (x5 : Int32) (x6 : Int32) (x7 : Int32) (ux1_0 : Nat) : Prop :=
  (((I ux1_0 1) ≤ x3 → post none (n, sh, Rf, I, L)) ∧ (¬ (I ux1_0 1) ≤ x3 → Ev (qGG D cA b E) mWay_weighCarrying 3 (0, 0) 16 [(0, .ref o), (1, .ref x1), (2, .int x2), (3, .int x3), (4, .int 0), (5, .int x5), (6, .int x6), (7, .int x7)] [] (n, sh, Rf, I, L) post))
set_option maxHeartbeats 4000000 in
set_option maxRecDepth 20000 in
theorem sWay_weighCarrying_2_8 {D : va_G} {cA : FieldType → ClassId} {b : Nat} {E : State → Prop} (o : Nat) (n : Nat) (sh : Nat → qC) (Rf : Nat → Nat → Option Nat) (I : Nat → Nat → Int32) (L : Nat → Nat → Int64) (post : Option Value → qS → Prop) (x1 : Nat) (x2 : Int32) (x3 : Int32) (x4 : Int32) (x5 : Int32) (x6 : Int32) (x7 : Int32) (ux1_0 : Nat) (hok : q_ok (qGG D cA b E)) (hw : WfWay (qGG D cA b E) n sh Rf o) (hw1 : WfRun (qGG D cA b E) n sh Rf x1) (hux1_0 : Rf x1 0 = some ux1_0) (hwux1_0 : WfLand (qGG D cA b E) n sh Rf ux1_0) (H : fWay_weighCarrying_2_8 D cA b E o n sh Rf I L post x1 x2 x3 x4 x5 x6 x7 ux1_0) : Ev (qGG D cA b E) mWay_weighCarrying 3 (0, 0) 2 [(0, .ref o), (1, .ref x1), (2, .int x2), (3, .int x3), (4, .int x4), (5, .int x5), (6, .int x6), (7, .int x7)] [] (n, sh, Rf, I, L) post := by
  unfold fWay_weighCarrying_2_8 at H
  refine ev_iload_n dWay_weighCarrying_2 rfl ?_
  refine ev_aload_n dWay_weighCarrying_3 rfl ?_
  refine ev_getR hok fk_Way_39 (woRun hw1) (fun _ _ _ => rfl) hux1_0 dWay_weighCarrying_4 ?_
  refine ev_getI hok fk_Way_89 (woLand hwux1_0) (fun _ _ _ => rfl) dWay_weighCarrying_7 ?_
  refine ev_icmp_ge 154 dWay_weighCarrying_10 (by decide) (fun c1 => ?_) (fun c1 => ?_)
  · have H := H.1 c1
    exact ev_vret rfl dWay_weighCarrying_154 H
  · have H := H.2 c1
    refine ev_iconst (0) dWay_weighCarrying_13 (by decide) ?_
    refine ev_istore dWay_weighCarrying_14 (by decide) ?_
    exact ev_sub [(0, .ref o), (1, .ref x1), (2, .int x2), (3, .int x3), (4, .int 0), (5, .int x5), (6, .int x6), (7, .int x7)] rfl H
def fWay_weighCarrying_2_9 (D : va_G) (cA : FieldType → ClassId) (b : Nat) (E : State → Prop) (o : Nat) (n : Nat) (sh : Nat → qC) (Rf : Nat → Nat → Option Nat) (I : Nat → Nat → Int32) (L : Nat → Nat → Int64) (post : Option Value → qS → Prop) (x1 : Nat) (x2 : Int32) (x3 : Int32) (x4 : Int32) (x5 : Int32) (x6 : Int32) (x7 : Int32) (x8 : Int32) (ux1_0 : Nat) : Prop :=
  (((I ux1_0 1) ≤ x3 → post none (n, sh, Rf, I, L)) ∧ (¬ (I ux1_0 1) ≤ x3 → Ev (qGG D cA b E) mWay_weighCarrying 3 (0, 0) 16 [(0, .ref o), (1, .ref x1), (2, .int x2), (3, .int x3), (4, .int 0), (5, .int x5), (6, .int x6), (7, .int x7), (8, .int x8)] [] (n, sh, Rf, I, L) post))
set_option maxHeartbeats 4000000 in
set_option maxRecDepth 20000 in
theorem sWay_weighCarrying_2_9 {D : va_G} {cA : FieldType → ClassId} {b : Nat} {E : State → Prop} (o : Nat) (n : Nat) (sh : Nat → qC) (Rf : Nat → Nat → Option Nat) (I : Nat → Nat → Int32) (L : Nat → Nat → Int64) (post : Option Value → qS → Prop) (x1 : Nat) (x2 : Int32) (x3 : Int32) (x4 : Int32) (x5 : Int32) (x6 : Int32) (x7 : Int32) (x8 : Int32) (ux1_0 : Nat) (hok : q_ok (qGG D cA b E)) (hw : WfWay (qGG D cA b E) n sh Rf o) (hw1 : WfRun (qGG D cA b E) n sh Rf x1) (hux1_0 : Rf x1 0 = some ux1_0) (hwux1_0 : WfLand (qGG D cA b E) n sh Rf ux1_0) (H : fWay_weighCarrying_2_9 D cA b E o n sh Rf I L post x1 x2 x3 x4 x5 x6 x7 x8 ux1_0) : Ev (qGG D cA b E) mWay_weighCarrying 3 (0, 0) 2 [(0, .ref o), (1, .ref x1), (2, .int x2), (3, .int x3), (4, .int x4), (5, .int x5), (6, .int x6), (7, .int x7), (8, .int x8)] [] (n, sh, Rf, I, L) post := by
  unfold fWay_weighCarrying_2_9 at H
  refine ev_iload_n dWay_weighCarrying_2 rfl ?_
  refine ev_aload_n dWay_weighCarrying_3 rfl ?_
  refine ev_getR hok fk_Way_39 (woRun hw1) (fun _ _ _ => rfl) hux1_0 dWay_weighCarrying_4 ?_
  refine ev_getI hok fk_Way_89 (woLand hwux1_0) (fun _ _ _ => rfl) dWay_weighCarrying_7 ?_
  refine ev_icmp_ge 154 dWay_weighCarrying_10 (by decide) (fun c1 => ?_) (fun c1 => ?_)
  · have H := H.1 c1
    exact ev_vret rfl dWay_weighCarrying_154 H
  · have H := H.2 c1
    refine ev_iconst (0) dWay_weighCarrying_13 (by decide) ?_
    refine ev_istore dWay_weighCarrying_14 (by decide) ?_
    exact ev_sub [(0, .ref o), (1, .ref x1), (2, .int x2), (3, .int x3), (4, .int 0), (5, .int x5), (6, .int x6), (7, .int x7), (8, .int x8)] rfl H
def fWay_weighCarrying_0 (D : va_G) (cA : FieldType → ClassId) (b : Nat) (E : State → Prop) (o : Nat) (n : Nat) (sh : Nat → qC) (Rf : Nat → Nat → Option Nat) (I : Nat → Nat → Int32) (L : Nat → Nat → Int64) (post : Option Value → qS → Prop) (x1 : Nat) (x2 : Int32) (ux1_0 : Nat) : Prop :=
  Ev (qGG D cA b E) mWay_weighCarrying 3 (0, 0) 2 [(0, .ref o), (1, .ref x1), (2, .int x2), (3, .int 0)] [] (n, sh, Rf, I, L) post
set_option maxHeartbeats 4000000 in
set_option maxRecDepth 20000 in
theorem sWay_weighCarrying_0 {D : va_G} {cA : FieldType → ClassId} {b : Nat} {E : State → Prop} (o : Nat) (n : Nat) (sh : Nat → qC) (Rf : Nat → Nat → Option Nat) (I : Nat → Nat → Int32) (L : Nat → Nat → Int64) (post : Option Value → qS → Prop) (x1 : Nat) (x2 : Int32) (ux1_0 : Nat) (hok : q_ok (qGG D cA b E)) (hw : WfWay (qGG D cA b E) n sh Rf o) (hw1 : WfRun (qGG D cA b E) n sh Rf x1) (hux1_0 : Rf x1 0 = some ux1_0) (hwux1_0 : WfLand (qGG D cA b E) n sh Rf ux1_0) (H : fWay_weighCarrying_0 D cA b E o n sh Rf I L post x1 x2 ux1_0) : Ev (qGG D cA b E) mWay_weighCarrying 3 (0, 0) 0 [(0, .ref o), (1, .ref x1), (2, .int x2)] [] (n, sh, Rf, I, L) post := by
  unfold fWay_weighCarrying_0 at H
  refine ev_iconst (0) dWay_weighCarrying_0 (by decide) ?_
  refine ev_istore_n dWay_weighCarrying_1 (by decide) ?_
  exact ev_sub [(0, .ref o), (1, .ref x1), (2, .int x2), (3, .int 0)] rfl H
def fWay_weighFarming_85 (D : va_G) (cA : FieldType → ClassId) (b : Nat) (E : State → Prop) (o : Nat) (n : Nat) (sh : Nat → qC) (Rf : Nat → Nat → Option Nat) (I : Nat → Nat → Int32) (L : Nat → Nat → Int64) (post : Option Value → qS → Prop) (x1 : Nat) (x2 : Int32) (x3 : Int32) (x4 : Int32) (x5 : Int32) (ux1_1 : Nat) (ux1_0 : Nat) : Prop :=
  Ev (qGG D cA b E) mWay_weighFarming 3 (0, 0) 19 [(0, .ref o), (1, .ref x1), (2, .int x2), (3, .int x3), (4, .int x4), (5, .int ((x5 + Int32.ofInt 1)))] [] (n, sh, Rf, I, L) post
set_option maxHeartbeats 4000000 in
set_option maxRecDepth 20000 in
theorem sWay_weighFarming_85 {D : va_G} {cA : FieldType → ClassId} {b : Nat} {E : State → Prop} (o : Nat) (n : Nat) (sh : Nat → qC) (Rf : Nat → Nat → Option Nat) (I : Nat → Nat → Int32) (L : Nat → Nat → Int64) (post : Option Value → qS → Prop) (x1 : Nat) (x2 : Int32) (x3 : Int32) (x4 : Int32) (x5 : Int32) (ux1_1 : Nat) (ux1_0 : Nat) (hok : q_ok (qGG D cA b E)) (hw : WfWay (qGG D cA b E) n sh Rf o) (hw1 : WfRun (qGG D cA b E) n sh Rf x1) (hux1_1 : Rf x1 1 = some ux1_1) (hwux1_1 : WfTrade (qGG D cA b E) n sh Rf ux1_1) (hux1_0 : Rf x1 0 = some ux1_0) (hwux1_0 : WfLand (qGG D cA b E) n sh Rf ux1_0) (H : fWay_weighFarming_85 D cA b E o n sh Rf I L post x1 x2 x3 x4 x5 ux1_1 ux1_0) : Ev (qGG D cA b E) mWay_weighFarming 3 (0, 0) 85 [(0, .ref o), (1, .ref x1), (2, .int x2), (3, .int x3), (4, .int x4), (5, .int x5)] [] (n, sh, Rf, I, L) post := by
  unfold fWay_weighFarming_85 at H
  refine ev_iinc dWay_weighFarming_85 rfl (by decide) ?_
  refine ev_goto 19 dWay_weighFarming_88 (by decide) ?_
  exact ev_sub [(0, .ref o), (1, .ref x1), (2, .int x2), (3, .int x3), (4, .int x4), (5, .int ((x5 + Int32.ofInt 1)))] rfl H
def fWay_weighFarming_85_3 (D : va_G) (cA : FieldType → ClassId) (b : Nat) (E : State → Prop) (o : Nat) (n : Nat) (sh : Nat → qC) (Rf : Nat → Nat → Option Nat) (I : Nat → Nat → Int32) (L : Nat → Nat → Int64) (post : Option Value → qS → Prop) (x1 : Nat) (x2 : Int32) (x3 : Int32) (x4 : Int32) (x5 : Int32) (x6 : Int32) (ux1_1 : Nat) (ux1_0 : Nat) : Prop :=
  Ev (qGG D cA b E) mWay_weighFarming 3 (0, 0) 19 [(0, .ref o), (1, .ref x1), (2, .int x2), (3, .int x3), (4, .int x4), (5, .int ((x5 + Int32.ofInt 1))), (6, .int x6)] [] (n, sh, Rf, I, L) post
set_option maxHeartbeats 4000000 in
set_option maxRecDepth 20000 in
theorem sWay_weighFarming_85_3 {D : va_G} {cA : FieldType → ClassId} {b : Nat} {E : State → Prop} (o : Nat) (n : Nat) (sh : Nat → qC) (Rf : Nat → Nat → Option Nat) (I : Nat → Nat → Int32) (L : Nat → Nat → Int64) (post : Option Value → qS → Prop) (x1 : Nat) (x2 : Int32) (x3 : Int32) (x4 : Int32) (x5 : Int32) (x6 : Int32) (ux1_1 : Nat) (ux1_0 : Nat) (hok : q_ok (qGG D cA b E)) (hw : WfWay (qGG D cA b E) n sh Rf o) (hw1 : WfRun (qGG D cA b E) n sh Rf x1) (hux1_1 : Rf x1 1 = some ux1_1) (hwux1_1 : WfTrade (qGG D cA b E) n sh Rf ux1_1) (hux1_0 : Rf x1 0 = some ux1_0) (hwux1_0 : WfLand (qGG D cA b E) n sh Rf ux1_0) (H : fWay_weighFarming_85_3 D cA b E o n sh Rf I L post x1 x2 x3 x4 x5 x6 ux1_1 ux1_0) : Ev (qGG D cA b E) mWay_weighFarming 3 (0, 0) 85 [(0, .ref o), (1, .ref x1), (2, .int x2), (3, .int x3), (4, .int x4), (5, .int x5), (6, .int x6)] [] (n, sh, Rf, I, L) post := by
  unfold fWay_weighFarming_85_3 at H
  refine ev_iinc dWay_weighFarming_85 rfl (by decide) ?_
  refine ev_goto 19 dWay_weighFarming_88 (by decide) ?_
  exact ev_sub [(0, .ref o), (1, .ref x1), (2, .int x2), (3, .int x3), (4, .int x4), (5, .int ((x5 + Int32.ofInt 1))), (6, .int x6)] rfl H
def fWay_weighFarming_19 (D : va_G) (cA : FieldType → ClassId) (b : Nat) (E : State → Prop) (o : Nat) (n : Nat) (sh : Nat → qC) (Rf : Nat → Nat → Option Nat) (I : Nat → Nat → Int32) (L : Nat → Nat → Int64) (post : Option Value → qS → Prop) (x1 : Nat) (x2 : Int32) (x3 : Int32) (x4 : Int32) (x5 : Int32) (ux1_1 : Nat) (ux1_0 : Nat) : Prop :=
  (((I ux1_0 1) ≤ x5 → post none (n, sh, Rf, I, L)) ∧ (¬ (I ux1_0 1) ≤ x5 → Ev (qGG D cA b E) mRun_hasRipeFarm 1 (0, 0) 0 (lv_args 0 [.ref x1, .int x2, .int x5]) [] (n, sh, Rf, I, L) (fun v τ => ∃ (r3 : Int32) (I4 : Nat → Nat → Int32) (L5 : Nat → Nat → Int64), v = some (.int r3) ∧ τ = (n, sh, Rf, I4, L5) ∧ ((r3 = 0 → fWay_weighFarming_85 D cA b E o n sh Rf I4 L5 post x1 x2 x3 x4 x5 ux1_1 ux1_0) ∧ (¬ r3 = 0 → ((x4 ≤ 0 → fWay_weighFarming_85 D cA b E o n sh Rf I4 L5 post x1 x2 x3 x4 x5 ux1_1 ux1_0) ∧ (¬ x4 ≤ 0 → Ev (qGG D cA b E) mRun_rateAt 2 (0, 0) 0 (lv_args 0 [.ref x1, .int x5, .int 0]) [] (n, sh, Rf, I4, L5) (fun v τ => ∃ (r9 : Int32) (I10 : Nat → Nat → Int32) (L11 : Nat → Nat → Int64), v = some (.int r9) ∧ τ = (n, sh, Rf, I10, L11) ∧ Ev (qGG D cA b E) mWay_weigh 0 (0, 0) 0 (lv_args 0 [.ref o, .int 2, .int x5, .int ((-1)), .int x4, .int ((x4 * r9)), .long (((x4 : Int32).toInt64 * (((r9 : Int32).toInt64 * (L11 o 7)) - (x3 : Int32).toInt64)))]) [] (n, sh, Rf, I10, L11) (fun v τ => ∃ (I14 : Nat → Nat → Int32) (L15 : Nat → Nat → Int64), v = none ∧ τ = (n, sh, Rf, I14, L15) ∧ fWay_weighFarming_85_3 D cA b E o n sh Rf I14 L15 post x1 x2 x3 x4 x5 r9 ux1_1 ux1_0)))))))))
set_option maxHeartbeats 4000000 in
set_option maxRecDepth 20000 in
theorem sWay_weighFarming_19 {D : va_G} {cA : FieldType → ClassId} {b : Nat} {E : State → Prop} (o : Nat) (n : Nat) (sh : Nat → qC) (Rf : Nat → Nat → Option Nat) (I : Nat → Nat → Int32) (L : Nat → Nat → Int64) (post : Option Value → qS → Prop) (x1 : Nat) (x2 : Int32) (x3 : Int32) (x4 : Int32) (x5 : Int32) (ux1_1 : Nat) (ux1_0 : Nat) (hok : q_ok (qGG D cA b E)) (hw : WfWay (qGG D cA b E) n sh Rf o) (hw1 : WfRun (qGG D cA b E) n sh Rf x1) (hux1_1 : Rf x1 1 = some ux1_1) (hwux1_1 : WfTrade (qGG D cA b E) n sh Rf ux1_1) (hux1_0 : Rf x1 0 = some ux1_0) (hwux1_0 : WfLand (qGG D cA b E) n sh Rf ux1_0) (H : fWay_weighFarming_19 D cA b E o n sh Rf I L post x1 x2 x3 x4 x5 ux1_1 ux1_0) : Ev (qGG D cA b E) mWay_weighFarming 3 (0, 0) 19 [(0, .ref o), (1, .ref x1), (2, .int x2), (3, .int x3), (4, .int x4), (5, .int x5)] [] (n, sh, Rf, I, L) post := by
  unfold fWay_weighFarming_19 at H
  refine ev_iload dWay_weighFarming_19 rfl ?_
  refine ev_aload_n dWay_weighFarming_21 rfl ?_
  refine ev_getR hok fk_Way_39 (woRun hw1) (fun _ _ _ => rfl) hux1_0 dWay_weighFarming_22 ?_
  refine ev_getI hok fk_Way_89 (woLand hwux1_0) (fun _ _ _ => rfl) dWay_weighFarming_25 ?_
  refine ev_icmp_ge 91 dWay_weighFarming_28 (by decide) (fun c1 => ?_) (fun c1 => ?_)
  · have H := H.1 c1
    exact ev_vret rfl dWay_weighFarming_91 H
  · have H := H.2 c1
    refine ev_aload_n dWay_weighFarming_31 rfl ?_
    refine ev_iload_n dWay_weighFarming_32 rfl ?_
    refine ev_iload dWay_weighFarming_33 rfl ?_
    refine ev_callV [.int x2, .int x5] [] (B' := (0, 0)) (B'' := (0, 0)) hok mmRun_hasRipeFarm mk_Way_134 (ci := 7) rfl rfl (woRun hw1) rfl (Nat.le_of_ble_eq_true rfl) rfl (Nat.le_of_ble_eq_true rfl) dWay_weighFarming_35 rfl (by decide) H (fun v τ p2 => ?_)
    obtain ⟨r3, I4, L5, rfl, rfl, H⟩ := p2
    refine ev_if_eq 85 dWay_weighFarming_38 (by decide) (fun c6 => ?_) (fun c6 => ?_)
    · have H := H.1 c6
      exact ev_sub [(0, .ref o), (1, .ref x1), (2, .int x2), (3, .int x3), (4, .int x4), (5, .int x5)] rfl (sWay_weighFarming_85 o n sh Rf I4 L5 post x1 x2 x3 x4 x5 ux1_1 ux1_0 hok hw hw1 hux1_1 hwux1_1 hux1_0 hwux1_0 H)
    · have H := H.2 c6
      refine ev_iload dWay_weighFarming_41 rfl ?_
      refine ev_if_le 85 dWay_weighFarming_43 (by decide) (fun c7 => ?_) (fun c7 => ?_)
      · have H := H.1 c7
        exact ev_sub [(0, .ref o), (1, .ref x1), (2, .int x2), (3, .int x3), (4, .int x4), (5, .int x5)] rfl (sWay_weighFarming_85 o n sh Rf I4 L5 post x1 x2 x3 x4 x5 ux1_1 ux1_0 hok hw hw1 hux1_1 hwux1_1 hux1_0 hwux1_0 H)
      · have H := H.2 c7
        refine ev_aload_n dWay_weighFarming_46 rfl ?_
        refine ev_iload dWay_weighFarming_47 rfl ?_
        refine ev_iconst (0) dWay_weighFarming_49 (by decide) ?_
        refine ev_callV [.int x5, .int 0] [] (B' := (0, 0)) (B'' := (0, 0)) hok mmRun_rateAt mk_Way_124 (ci := 7) rfl rfl (woRun hw1) rfl (Nat.le_of_ble_eq_true rfl) rfl (Nat.le_of_ble_eq_true rfl) dWay_weighFarming_50 rfl (by decide) H (fun v τ p8 => ?_)
        obtain ⟨r9, I10, L11, rfl, rfl, H⟩ := p8
        refine ev_istore dWay_weighFarming_53 (by decide) ?_
        refine ev_aload_n dWay_weighFarming_55 rfl ?_
        refine ev_iconst (2) dWay_weighFarming_56 (by decide) ?_
        refine ev_iload dWay_weighFarming_57 rfl ?_
        refine ev_iconst (-1) dWay_weighFarming_59 (by decide) ?_
        refine ev_iload dWay_weighFarming_60 rfl ?_
        refine ev_iload dWay_weighFarming_62 rfl ?_
        refine ev_iload dWay_weighFarming_64 rfl ?_
        refine ev_imul dWay_weighFarming_66 ?_
        refine ev_iload dWay_weighFarming_67 rfl ?_
        refine ev_i2l dWay_weighFarming_69 ?_
        refine ev_iload dWay_weighFarming_70 rfl ?_
        refine ev_i2l dWay_weighFarming_72 ?_
        refine ev_aload_n dWay_weighFarming_73 rfl ?_
        refine ev_getL hok fk_Way_34 (woWay hw) (fun _ _ _ => rfl) dWay_weighFarming_74 ?_
        refine ev_lmul dWay_weighFarming_77 ?_
        refine ev_iload_n dWay_weighFarming_78 rfl ?_
        refine ev_i2l dWay_weighFarming_79 ?_
        refine ev_lsub dWay_weighFarming_80 ?_
        refine ev_lmul dWay_weighFarming_81 ?_
        refine ev_callV [.int 2, .int x5, .int ((-1)), .int x4, .int ((x4 * r9)), .long (((x4 : Int32).toInt64 * (((r9 : Int32).toInt64 * (L11 o 7)) - (x3 : Int32).toInt64)))] [] (B' := (0, 0)) (B'' := (0, 0)) hok mmWay_weigh mk_Way_127 (ci := 10) rfl rfl (woWay hw) rfl (Nat.le_of_ble_eq_true rfl) rfl (Nat.le_of_ble_eq_true rfl) dWay_weighFarming_82 rfl (by decide) H (fun v τ p12 => ?_)
        obtain ⟨I14, L15, rfl, rfl, H⟩ := p12
        exact ev_sub [(0, .ref o), (1, .ref x1), (2, .int x2), (3, .int x3), (4, .int x4), (5, .int x5), (6, .int r9)] rfl (sWay_weighFarming_85_3 o n sh Rf I14 L15 post x1 x2 x3 x4 x5 r9 ux1_1 ux1_0 hok hw hw1 hux1_1 hwux1_1 hux1_0 hwux1_0 H)
def fWay_weighFarming_19_4 (D : va_G) (cA : FieldType → ClassId) (b : Nat) (E : State → Prop) (o : Nat) (n : Nat) (sh : Nat → qC) (Rf : Nat → Nat → Option Nat) (I : Nat → Nat → Int32) (L : Nat → Nat → Int64) (post : Option Value → qS → Prop) (x1 : Nat) (x2 : Int32) (x3 : Int32) (x4 : Int32) (x5 : Int32) (x6 : Int32) (ux1_1 : Nat) (ux1_0 : Nat) : Prop :=
  (((I ux1_0 1) ≤ x5 → post none (n, sh, Rf, I, L)) ∧ (¬ (I ux1_0 1) ≤ x5 → Ev (qGG D cA b E) mRun_hasRipeFarm 1 (0, 0) 0 (lv_args 0 [.ref x1, .int x2, .int x5]) [] (n, sh, Rf, I, L) (fun v τ => ∃ (r3 : Int32) (I4 : Nat → Nat → Int32) (L5 : Nat → Nat → Int64), v = some (.int r3) ∧ τ = (n, sh, Rf, I4, L5) ∧ ((r3 = 0 → fWay_weighFarming_85_3 D cA b E o n sh Rf I4 L5 post x1 x2 x3 x4 x5 x6 ux1_1 ux1_0) ∧ (¬ r3 = 0 → ((x4 ≤ 0 → fWay_weighFarming_85_3 D cA b E o n sh Rf I4 L5 post x1 x2 x3 x4 x5 x6 ux1_1 ux1_0) ∧ (¬ x4 ≤ 0 → Ev (qGG D cA b E) mRun_rateAt 2 (0, 0) 0 (lv_args 0 [.ref x1, .int x5, .int 0]) [] (n, sh, Rf, I4, L5) (fun v τ => ∃ (r9 : Int32) (I10 : Nat → Nat → Int32) (L11 : Nat → Nat → Int64), v = some (.int r9) ∧ τ = (n, sh, Rf, I10, L11) ∧ Ev (qGG D cA b E) mWay_weigh 0 (0, 0) 0 (lv_args 0 [.ref o, .int 2, .int x5, .int ((-1)), .int x4, .int ((x4 * r9)), .long (((x4 : Int32).toInt64 * (((r9 : Int32).toInt64 * (L11 o 7)) - (x3 : Int32).toInt64)))]) [] (n, sh, Rf, I10, L11) (fun v τ => ∃ (I14 : Nat → Nat → Int32) (L15 : Nat → Nat → Int64), v = none ∧ τ = (n, sh, Rf, I14, L15) ∧ fWay_weighFarming_85_3 D cA b E o n sh Rf I14 L15 post x1 x2 x3 x4 x5 r9 ux1_1 ux1_0)))))))))
set_option maxHeartbeats 4000000 in
set_option maxRecDepth 20000 in
theorem sWay_weighFarming_19_4 {D : va_G} {cA : FieldType → ClassId} {b : Nat} {E : State → Prop} (o : Nat) (n : Nat) (sh : Nat → qC) (Rf : Nat → Nat → Option Nat) (I : Nat → Nat → Int32) (L : Nat → Nat → Int64) (post : Option Value → qS → Prop) (x1 : Nat) (x2 : Int32) (x3 : Int32) (x4 : Int32) (x5 : Int32) (x6 : Int32) (ux1_1 : Nat) (ux1_0 : Nat) (hok : q_ok (qGG D cA b E)) (hw : WfWay (qGG D cA b E) n sh Rf o) (hw1 : WfRun (qGG D cA b E) n sh Rf x1) (hux1_1 : Rf x1 1 = some ux1_1) (hwux1_1 : WfTrade (qGG D cA b E) n sh Rf ux1_1) (hux1_0 : Rf x1 0 = some ux1_0) (hwux1_0 : WfLand (qGG D cA b E) n sh Rf ux1_0) (H : fWay_weighFarming_19_4 D cA b E o n sh Rf I L post x1 x2 x3 x4 x5 x6 ux1_1 ux1_0) : Ev (qGG D cA b E) mWay_weighFarming 3 (0, 0) 19 [(0, .ref o), (1, .ref x1), (2, .int x2), (3, .int x3), (4, .int x4), (5, .int x5), (6, .int x6)] [] (n, sh, Rf, I, L) post := by
  unfold fWay_weighFarming_19_4 at H
  refine ev_iload dWay_weighFarming_19 rfl ?_
  refine ev_aload_n dWay_weighFarming_21 rfl ?_
  refine ev_getR hok fk_Way_39 (woRun hw1) (fun _ _ _ => rfl) hux1_0 dWay_weighFarming_22 ?_
  refine ev_getI hok fk_Way_89 (woLand hwux1_0) (fun _ _ _ => rfl) dWay_weighFarming_25 ?_
  refine ev_icmp_ge 91 dWay_weighFarming_28 (by decide) (fun c1 => ?_) (fun c1 => ?_)
  · have H := H.1 c1
    exact ev_vret rfl dWay_weighFarming_91 H
  · have H := H.2 c1
    refine ev_aload_n dWay_weighFarming_31 rfl ?_
    refine ev_iload_n dWay_weighFarming_32 rfl ?_
    refine ev_iload dWay_weighFarming_33 rfl ?_
    refine ev_callV [.int x2, .int x5] [] (B' := (0, 0)) (B'' := (0, 0)) hok mmRun_hasRipeFarm mk_Way_134 (ci := 7) rfl rfl (woRun hw1) rfl (Nat.le_of_ble_eq_true rfl) rfl (Nat.le_of_ble_eq_true rfl) dWay_weighFarming_35 rfl (by decide) H (fun v τ p2 => ?_)
    obtain ⟨r3, I4, L5, rfl, rfl, H⟩ := p2
    refine ev_if_eq 85 dWay_weighFarming_38 (by decide) (fun c6 => ?_) (fun c6 => ?_)
    · have H := H.1 c6
      exact ev_sub [(0, .ref o), (1, .ref x1), (2, .int x2), (3, .int x3), (4, .int x4), (5, .int x5), (6, .int x6)] rfl (sWay_weighFarming_85_3 o n sh Rf I4 L5 post x1 x2 x3 x4 x5 x6 ux1_1 ux1_0 hok hw hw1 hux1_1 hwux1_1 hux1_0 hwux1_0 H)
    · have H := H.2 c6
      refine ev_iload dWay_weighFarming_41 rfl ?_
      refine ev_if_le 85 dWay_weighFarming_43 (by decide) (fun c7 => ?_) (fun c7 => ?_)
      · have H := H.1 c7
        exact ev_sub [(0, .ref o), (1, .ref x1), (2, .int x2), (3, .int x3), (4, .int x4), (5, .int x5), (6, .int x6)] rfl (sWay_weighFarming_85_3 o n sh Rf I4 L5 post x1 x2 x3 x4 x5 x6 ux1_1 ux1_0 hok hw hw1 hux1_1 hwux1_1 hux1_0 hwux1_0 H)
      · have H := H.2 c7
        refine ev_aload_n dWay_weighFarming_46 rfl ?_
        refine ev_iload dWay_weighFarming_47 rfl ?_
        refine ev_iconst (0) dWay_weighFarming_49 (by decide) ?_
        refine ev_callV [.int x5, .int 0] [] (B' := (0, 0)) (B'' := (0, 0)) hok mmRun_rateAt mk_Way_124 (ci := 7) rfl rfl (woRun hw1) rfl (Nat.le_of_ble_eq_true rfl) rfl (Nat.le_of_ble_eq_true rfl) dWay_weighFarming_50 rfl (by decide) H (fun v τ p8 => ?_)
        obtain ⟨r9, I10, L11, rfl, rfl, H⟩ := p8
        refine ev_istore dWay_weighFarming_53 (by decide) ?_
        refine ev_aload_n dWay_weighFarming_55 rfl ?_
        refine ev_iconst (2) dWay_weighFarming_56 (by decide) ?_
        refine ev_iload dWay_weighFarming_57 rfl ?_
        refine ev_iconst (-1) dWay_weighFarming_59 (by decide) ?_
        refine ev_iload dWay_weighFarming_60 rfl ?_
        refine ev_iload dWay_weighFarming_62 rfl ?_
        refine ev_iload dWay_weighFarming_64 rfl ?_
        refine ev_imul dWay_weighFarming_66 ?_
        refine ev_iload dWay_weighFarming_67 rfl ?_
        refine ev_i2l dWay_weighFarming_69 ?_
        refine ev_iload dWay_weighFarming_70 rfl ?_
        refine ev_i2l dWay_weighFarming_72 ?_
        refine ev_aload_n dWay_weighFarming_73 rfl ?_
        refine ev_getL hok fk_Way_34 (woWay hw) (fun _ _ _ => rfl) dWay_weighFarming_74 ?_
        refine ev_lmul dWay_weighFarming_77 ?_
        refine ev_iload_n dWay_weighFarming_78 rfl ?_
        refine ev_i2l dWay_weighFarming_79 ?_
        refine ev_lsub dWay_weighFarming_80 ?_
        refine ev_lmul dWay_weighFarming_81 ?_
        refine ev_callV [.int 2, .int x5, .int ((-1)), .int x4, .int ((x4 * r9)), .long (((x4 : Int32).toInt64 * (((r9 : Int32).toInt64 * (L11 o 7)) - (x3 : Int32).toInt64)))] [] (B' := (0, 0)) (B'' := (0, 0)) hok mmWay_weigh mk_Way_127 (ci := 10) rfl rfl (woWay hw) rfl (Nat.le_of_ble_eq_true rfl) rfl (Nat.le_of_ble_eq_true rfl) dWay_weighFarming_82 rfl (by decide) H (fun v τ p12 => ?_)
        obtain ⟨I14, L15, rfl, rfl, H⟩ := p12
        exact ev_sub [(0, .ref o), (1, .ref x1), (2, .int x2), (3, .int x3), (4, .int x4), (5, .int x5), (6, .int r9)] rfl (sWay_weighFarming_85_3 o n sh Rf I14 L15 post x1 x2 x3 x4 x5 r9 ux1_1 ux1_0 hok hw hw1 hux1_1 hwux1_1 hux1_0 hwux1_0 H)
def fWay_weighFarming_0 (D : va_G) (cA : FieldType → ClassId) (b : Nat) (E : State → Prop) (o : Nat) (n : Nat) (sh : Nat → qC) (Rf : Nat → Nat → Option Nat) (I : Nat → Nat → Int32) (L : Nat → Nat → Int64) (post : Option Value → qS → Prop) (x1 : Nat) (x2 : Int32) (ux1_1 : Nat) (ux1_0 : Nat) : Prop :=
  Ev (qGG D cA b E) mWay_affordable 1 (0, 0) 0 (lv_args 0 [.ref x1, .int x2, .int ((I ux1_1 6))]) [] (n, sh, Rf, I, L) (fun v τ => ∃ (r2 : Int32) (I3 : Nat → Nat → Int32) (L4 : Nat → Nat → Int64), v = some (.int r2) ∧ τ = (n, sh, Rf, I3, L4) ∧ Ev (qGG D cA b E) mWay_weighFarming 3 (0, 0) 19 [(0, .ref o), (1, .ref x1), (2, .int x2), (3, .int ((I ux1_1 6))), (4, .int r2), (5, .int 0)] [] (n, sh, Rf, I3, L4) post)
set_option maxHeartbeats 4000000 in
set_option maxRecDepth 20000 in
theorem sWay_weighFarming_0 {D : va_G} {cA : FieldType → ClassId} {b : Nat} {E : State → Prop} (o : Nat) (n : Nat) (sh : Nat → qC) (Rf : Nat → Nat → Option Nat) (I : Nat → Nat → Int32) (L : Nat → Nat → Int64) (post : Option Value → qS → Prop) (x1 : Nat) (x2 : Int32) (ux1_1 : Nat) (ux1_0 : Nat) (hok : q_ok (qGG D cA b E)) (hw : WfWay (qGG D cA b E) n sh Rf o) (hw1 : WfRun (qGG D cA b E) n sh Rf x1) (hux1_1 : Rf x1 1 = some ux1_1) (hwux1_1 : WfTrade (qGG D cA b E) n sh Rf ux1_1) (hux1_0 : Rf x1 0 = some ux1_0) (hwux1_0 : WfLand (qGG D cA b E) n sh Rf ux1_0) (H : fWay_weighFarming_0 D cA b E o n sh Rf I L post x1 x2 ux1_1 ux1_0) : Ev (qGG D cA b E) mWay_weighFarming 3 (0, 0) 0 [(0, .ref o), (1, .ref x1), (2, .int x2)] [] (n, sh, Rf, I, L) post := by
  unfold fWay_weighFarming_0 at H
  refine ev_aload_n dWay_weighFarming_0 rfl ?_
  refine ev_getR hok fk_Way_70 (woRun hw1) (fun _ _ _ => rfl) hux1_1 dWay_weighFarming_1 ?_
  refine ev_getI hok fk_Way_131 (woTrade hwux1_1) (fun _ _ _ => rfl) dWay_weighFarming_4 ?_
  refine ev_istore_n dWay_weighFarming_7 (by decide) ?_
  refine ev_aload_n dWay_weighFarming_8 rfl ?_
  refine ev_iload_n dWay_weighFarming_9 rfl ?_
  refine ev_iload_n dWay_weighFarming_10 rfl ?_
  refine ev_callS [.ref x1, .int x2, .int ((I ux1_1 6))] [] (B' := (0, 0)) (B'' := (0, 0)) hok mmWay_affordable mk_Way_109 rfl (Nat.le_of_ble_eq_true rfl) rfl (Nat.le_of_ble_eq_true rfl) dWay_weighFarming_11 rfl (by decide) H (fun v τ p1 => ?_)
  obtain ⟨r2, I3, L4, rfl, rfl, H⟩ := p1
  refine ev_istore dWay_weighFarming_14 (by decide) ?_
  refine ev_iconst (0) dWay_weighFarming_16 (by decide) ?_
  refine ev_istore dWay_weighFarming_17 (by decide) ?_
  exact ev_sub [(0, .ref o), (1, .ref x1), (2, .int x2), (3, .int ((I ux1_1 6))), (4, .int r2), (5, .int 0)] rfl H
def fWay_weighFounding_91 (D : va_G) (cA : FieldType → ClassId) (b : Nat) (E : State → Prop) (o : Nat) (n : Nat) (sh : Nat → qC) (Rf : Nat → Nat → Option Nat) (I : Nat → Nat → Int32) (L : Nat → Nat → Int64) (post : Option Value → qS → Prop) (x1 : Nat) (x2 : Int32) (x3 : Int32) (ux1_0 : Nat) (ux1_1 : Nat) : Prop :=
  Ev (qGG D cA b E) mWay_weighFounding 3 (0, 0) 2 [(0, .ref o), (1, .ref x1), (2, .int x2), (3, .int ((x3 + Int32.ofInt 1)))] [] (n, sh, Rf, I, L) post
set_option maxHeartbeats 4000000 in
set_option maxRecDepth 20000 in
theorem sWay_weighFounding_91 {D : va_G} {cA : FieldType → ClassId} {b : Nat} {E : State → Prop} (o : Nat) (n : Nat) (sh : Nat → qC) (Rf : Nat → Nat → Option Nat) (I : Nat → Nat → Int32) (L : Nat → Nat → Int64) (post : Option Value → qS → Prop) (x1 : Nat) (x2 : Int32) (x3 : Int32) (ux1_0 : Nat) (ux1_1 : Nat) (hok : q_ok (qGG D cA b E)) (hw : WfWay (qGG D cA b E) n sh Rf o) (hw1 : WfRun (qGG D cA b E) n sh Rf x1) (hux1_0 : Rf x1 0 = some ux1_0) (hwux1_0 : WfLand (qGG D cA b E) n sh Rf ux1_0) (hux1_1 : Rf x1 1 = some ux1_1) (hwux1_1 : WfTrade (qGG D cA b E) n sh Rf ux1_1) (H : fWay_weighFounding_91 D cA b E o n sh Rf I L post x1 x2 x3 ux1_0 ux1_1) : Ev (qGG D cA b E) mWay_weighFounding 3 (0, 0) 91 [(0, .ref o), (1, .ref x1), (2, .int x2), (3, .int x3)] [] (n, sh, Rf, I, L) post := by
  unfold fWay_weighFounding_91 at H
  refine ev_iinc dWay_weighFounding_91 rfl (by decide) ?_
  refine ev_goto 2 dWay_weighFounding_94 (by decide) ?_
  exact ev_sub [(0, .ref o), (1, .ref x1), (2, .int x2), (3, .int ((x3 + Int32.ofInt 1)))] rfl H
def fWay_weighFounding_91_3 (D : va_G) (cA : FieldType → ClassId) (b : Nat) (E : State → Prop) (o : Nat) (n : Nat) (sh : Nat → qC) (Rf : Nat → Nat → Option Nat) (I : Nat → Nat → Int32) (L : Nat → Nat → Int64) (post : Option Value → qS → Prop) (x1 : Nat) (x2 : Int32) (x3 : Int32) (x4 : Int64) (ux1_0 : Nat) (ux1_1 : Nat) : Prop :=
  Ev (qGG D cA b E) mWay_weighFounding 3 (0, 0) 2 [(0, .ref o), (1, .ref x1), (2, .int x2), (3, .int ((x3 + Int32.ofInt 1))), (4, .long x4)] [] (n, sh, Rf, I, L) post
set_option maxHeartbeats 4000000 in
set_option maxRecDepth 20000 in
theorem sWay_weighFounding_91_3 {D : va_G} {cA : FieldType → ClassId} {b : Nat} {E : State → Prop} (o : Nat) (n : Nat) (sh : Nat → qC) (Rf : Nat → Nat → Option Nat) (I : Nat → Nat → Int32) (L : Nat → Nat → Int64) (post : Option Value → qS → Prop) (x1 : Nat) (x2 : Int32) (x3 : Int32) (x4 : Int64) (ux1_0 : Nat) (ux1_1 : Nat) (hok : q_ok (qGG D cA b E)) (hw : WfWay (qGG D cA b E) n sh Rf o) (hw1 : WfRun (qGG D cA b E) n sh Rf x1) (hux1_0 : Rf x1 0 = some ux1_0) (hwux1_0 : WfLand (qGG D cA b E) n sh Rf ux1_0) (hux1_1 : Rf x1 1 = some ux1_1) (hwux1_1 : WfTrade (qGG D cA b E) n sh Rf ux1_1) (H : fWay_weighFounding_91_3 D cA b E o n sh Rf I L post x1 x2 x3 x4 ux1_0 ux1_1) : Ev (qGG D cA b E) mWay_weighFounding 3 (0, 0) 91 [(0, .ref o), (1, .ref x1), (2, .int x2), (3, .int x3), (4, .long x4)] [] (n, sh, Rf, I, L) post := by
  unfold fWay_weighFounding_91_3 at H
  refine ev_iinc dWay_weighFounding_91 rfl (by decide) ?_
  refine ev_goto 2 dWay_weighFounding_94 (by decide) ?_
  exact ev_sub [(0, .ref o), (1, .ref x1), (2, .int x2), (3, .int ((x3 + Int32.ofInt 1))), (4, .long x4)] rfl H
def fWay_weighFounding_2 (D : va_G) (cA : FieldType → ClassId) (b : Nat) (E : State → Prop) (o : Nat) (n : Nat) (sh : Nat → qC) (Rf : Nat → Nat → Option Nat) (I : Nat → Nat → Int32) (L : Nat → Nat → Int64) (post : Option Value → qS → Prop) (x1 : Nat) (x2 : Int32) (x3 : Int32) (ux1_0 : Nat) (ux1_1 : Nat) : Prop :=
  (((I ux1_0 1) ≤ x3 → post none (n, sh, Rf, I, L)) ∧ (¬ (I ux1_0 1) ≤ x3 → Ev (qGG D cA b E) mRun_hasFarm 0 (0, 0) 0 (lv_args 0 [.ref x1, .int x2, .int x3]) [] (n, sh, Rf, I, L) (fun v τ => ∃ (r3 : Int32) (I4 : Nat → Nat → Int32) (L5 : Nat → Nat → Int64), v = some (.int r3) ∧ τ = (n, sh, Rf, I4, L5) ∧ ((¬ r3 = 0 → fWay_weighFounding_91 D cA b E o n sh Rf I4 L5 post x1 x2 x3 ux1_0 ux1_1) ∧ (r3 = 0 → vp_in x2 6 ∧ (((lg_cmp (L5 (x1 + 61) (x2 : Int32).toNatClampNeg) (((I4 ux1_1 5) : Int32).toInt64)) < 0 → fWay_weighFounding_91 D cA b E o n sh Rf I4 L5 post x1 x2 x3 ux1_0 ux1_1) ∧ (¬ (lg_cmp (L5 (x1 + 61) (x2 : Int32).toNatClampNeg) (((I4 ux1_1 5) : Int32).toInt64)) < 0 → Ev (qGG D cA b E) mRun_rateAt 2 (0, 0) 0 (lv_args 0 [.ref x1, .int x3, .int 0]) [] (n, sh, Rf, I4, L5) (fun v τ => ∃ (r10 : Int32) (I11 : Nat → Nat → Int32) (L12 : Nat → Nat → Int64), v = some (.int r10) ∧ τ = (n, sh, Rf, I11, L12) ∧ Ev (qGG D cA b E) mWay_weigh 0 (0, 0) 0 (lv_args 0 [.ref o, .int 3, .int x3, .int ((-1)), .int 1, .int 0, .long ((((24 * (((r10 : Int32).toInt64 * (L12 o 7)) - ((I11 ux1_1 6) : Int32).toInt64)) - ((I11 ux1_1 5) : Int32).toInt64) / 24))]) [] (n, sh, Rf, I11, L12) (fun v τ => ∃ (I15 : Nat → Nat → Int32) (L16 : Nat → Nat → Int64), v = none ∧ τ = (n, sh, Rf, I15, L16) ∧ fWay_weighFounding_91_3 D cA b E o n sh Rf I15 L16 post x1 x2 x3 (((r10 : Int32).toInt64 * (L12 o 7)) - ((I11 ux1_1 6) : Int32).toInt64) ux1_0 ux1_1)))))))))
set_option maxHeartbeats 4000000 in
set_option maxRecDepth 20000 in
theorem sWay_weighFounding_2 {D : va_G} {cA : FieldType → ClassId} {b : Nat} {E : State → Prop} (o : Nat) (n : Nat) (sh : Nat → qC) (Rf : Nat → Nat → Option Nat) (I : Nat → Nat → Int32) (L : Nat → Nat → Int64) (post : Option Value → qS → Prop) (x1 : Nat) (x2 : Int32) (x3 : Int32) (ux1_0 : Nat) (ux1_1 : Nat) (hok : q_ok (qGG D cA b E)) (hw : WfWay (qGG D cA b E) n sh Rf o) (hw1 : WfRun (qGG D cA b E) n sh Rf x1) (hux1_0 : Rf x1 0 = some ux1_0) (hwux1_0 : WfLand (qGG D cA b E) n sh Rf ux1_0) (hux1_1 : Rf x1 1 = some ux1_1) (hwux1_1 : WfTrade (qGG D cA b E) n sh Rf ux1_1) (H : fWay_weighFounding_2 D cA b E o n sh Rf I L post x1 x2 x3 ux1_0 ux1_1) : Ev (qGG D cA b E) mWay_weighFounding 3 (0, 0) 2 [(0, .ref o), (1, .ref x1), (2, .int x2), (3, .int x3)] [] (n, sh, Rf, I, L) post := by
  unfold fWay_weighFounding_2 at H
  refine ev_iload_n dWay_weighFounding_2 rfl ?_
  refine ev_aload_n dWay_weighFounding_3 rfl ?_
  refine ev_getR hok fk_Way_39 (woRun hw1) (fun _ _ _ => rfl) hux1_0 dWay_weighFounding_4 ?_
  refine ev_getI hok fk_Way_89 (woLand hwux1_0) (fun _ _ _ => rfl) dWay_weighFounding_7 ?_
  refine ev_icmp_ge 97 dWay_weighFounding_10 (by decide) (fun c1 => ?_) (fun c1 => ?_)
  · have H := H.1 c1
    exact ev_vret rfl dWay_weighFounding_97 H
  · have H := H.2 c1
    refine ev_aload_n dWay_weighFounding_13 rfl ?_
    refine ev_iload_n dWay_weighFounding_14 rfl ?_
    refine ev_iload_n dWay_weighFounding_15 rfl ?_
    refine ev_callV [.int x2, .int x3] [] (B' := (0, 0)) (B'' := (0, 0)) hok mmRun_hasFarm mk_Way_138 (ci := 7) rfl rfl (woRun hw1) rfl (Nat.le_of_ble_eq_true rfl) rfl (Nat.le_of_ble_eq_true rfl) dWay_weighFounding_16 rfl (by decide) H (fun v τ p2 => ?_)
    obtain ⟨r3, I4, L5, rfl, rfl, H⟩ := p2
    refine ev_if_ne 91 dWay_weighFounding_19 (by decide) (fun c6 => ?_) (fun c6 => ?_)
    · have H := H.1 c6
      exact ev_sub [(0, .ref o), (1, .ref x1), (2, .int x2), (3, .int x3)] rfl (sWay_weighFounding_91 o n sh Rf I4 L5 post x1 x2 x3 ux1_0 ux1_1 hok hw hw1 hux1_0 hwux1_0 hux1_1 hwux1_1 H)
    · have H := H.2 c6
      refine ev_aload_n dWay_weighFounding_22 rfl ?_
      refine ev_getR hok fk_Way_79 (woRun hw1) (fun _ _ _ => rfl) (wrRun_10 hw1) dWay_weighFounding_23 ?_
      refine ev_iload_n dWay_weighFounding_26 rfl ?_
      obtain ⟨h7, H⟩ := H
      refine ev_lald hok (waRun_10 hw1) h7 dWay_weighFounding_27 ?_
      refine ev_aload_n dWay_weighFounding_28 rfl ?_
      refine ev_getR hok fk_Way_70 (woRun hw1) (fun _ _ _ => rfl) hux1_1 dWay_weighFounding_29 ?_
      refine ev_getI hok fk_Way_141 (woTrade hwux1_1) (fun _ _ _ => rfl) dWay_weighFounding_32 ?_
      refine ev_i2l dWay_weighFounding_35 ?_
      refine ev_lcmp dWay_weighFounding_36 ?_
      refine ev_if_lt 91 dWay_weighFounding_37 (by decide) (fun c8 => ?_) (fun c8 => ?_)
      · have H := H.1 c8
        exact ev_sub [(0, .ref o), (1, .ref x1), (2, .int x2), (3, .int x3)] rfl (sWay_weighFounding_91 o n sh Rf I4 L5 post x1 x2 x3 ux1_0 ux1_1 hok hw hw1 hux1_0 hwux1_0 hux1_1 hwux1_1 H)
      · have H := H.2 c8
        refine ev_aload_n dWay_weighFounding_40 rfl ?_
        refine ev_iload_n dWay_weighFounding_41 rfl ?_
        refine ev_iconst (0) dWay_weighFounding_42 (by decide) ?_
        refine ev_callV [.int x3, .int 0] [] (B' := (0, 0)) (B'' := (0, 0)) hok mmRun_rateAt mk_Way_124 (ci := 7) rfl rfl (woRun hw1) rfl (Nat.le_of_ble_eq_true rfl) rfl (Nat.le_of_ble_eq_true rfl) dWay_weighFounding_43 rfl (by decide) H (fun v τ p9 => ?_)
        obtain ⟨r10, I11, L12, rfl, rfl, H⟩ := p9
        refine ev_i2l dWay_weighFounding_46 ?_
        refine ev_aload_n dWay_weighFounding_47 rfl ?_
        refine ev_getL hok fk_Way_34 (woWay hw) (fun _ _ _ => rfl) dWay_weighFounding_48 ?_
        refine ev_lmul dWay_weighFounding_51 ?_
        refine ev_aload_n dWay_weighFounding_52 rfl ?_
        refine ev_getR hok fk_Way_70 (woRun hw1) (fun _ _ _ => rfl) hux1_1 dWay_weighFounding_53 ?_
        refine ev_getI hok fk_Way_131 (woTrade hwux1_1) (fun _ _ _ => rfl) dWay_weighFounding_56 ?_
        refine ev_i2l dWay_weighFounding_59 ?_
        refine ev_lsub dWay_weighFounding_60 ?_
        refine ev_lstore dWay_weighFounding_61 (by decide) ?_
        refine ev_aload_n dWay_weighFounding_63 rfl ?_
        refine ev_iconst (3) dWay_weighFounding_64 (by decide) ?_
        refine ev_iload_n dWay_weighFounding_65 rfl ?_
        refine ev_iconst (-1) dWay_weighFounding_66 (by decide) ?_
        refine ev_iconst (1) dWay_weighFounding_67 (by decide) ?_
        refine ev_iconst (0) dWay_weighFounding_68 (by decide) ?_
        refine ev_ldc2 (24) dWay_weighFounding_69 (q_t6 106 (by decide +kernel) rfl) ?_
        refine ev_lload dWay_weighFounding_72 rfl ?_
        refine ev_lmul dWay_weighFounding_74 ?_
        refine ev_aload_n dWay_weighFounding_75 rfl ?_
        refine ev_getR hok fk_Way_70 (woRun hw1) (fun _ _ _ => rfl) hux1_1 dWay_weighFounding_76 ?_
        refine ev_getI hok fk_Way_141 (woTrade hwux1_1) (fun _ _ _ => rfl) dWay_weighFounding_79 ?_
        refine ev_i2l dWay_weighFounding_82 ?_
        refine ev_lsub dWay_weighFounding_83 ?_
        refine ev_ldc2 (24) dWay_weighFounding_84 (q_t6 106 (by decide +kernel) rfl) ?_
        refine ev_ldiv dWay_weighFounding_87 (by decide) ?_
        refine ev_callV [.int 3, .int x3, .int ((-1)), .int 1, .int 0, .long ((((24 * (((r10 : Int32).toInt64 * (L12 o 7)) - ((I11 ux1_1 6) : Int32).toInt64)) - ((I11 ux1_1 5) : Int32).toInt64) / 24))] [] (B' := (0, 0)) (B'' := (0, 0)) hok mmWay_weigh mk_Way_127 (ci := 10) rfl rfl (woWay hw) rfl (Nat.le_of_ble_eq_true rfl) rfl (Nat.le_of_ble_eq_true rfl) dWay_weighFounding_88 rfl (by decide) H (fun v τ p13 => ?_)
        obtain ⟨I15, L16, rfl, rfl, H⟩ := p13
        exact ev_sub [(0, .ref o), (1, .ref x1), (2, .int x2), (3, .int x3), (4, .long ((((r10 : Int32).toInt64 * (L12 o 7)) - ((I11 ux1_1 6) : Int32).toInt64)))] rfl (sWay_weighFounding_91_3 o n sh Rf I15 L16 post x1 x2 x3 (((r10 : Int32).toInt64 * (L12 o 7)) - ((I11 ux1_1 6) : Int32).toInt64) ux1_0 ux1_1 hok hw hw1 hux1_0 hwux1_0 hux1_1 hwux1_1 H)
def fWay_weighFounding_2_4 (D : va_G) (cA : FieldType → ClassId) (b : Nat) (E : State → Prop) (o : Nat) (n : Nat) (sh : Nat → qC) (Rf : Nat → Nat → Option Nat) (I : Nat → Nat → Int32) (L : Nat → Nat → Int64) (post : Option Value → qS → Prop) (x1 : Nat) (x2 : Int32) (x3 : Int32) (x4 : Int64) (ux1_0 : Nat) (ux1_1 : Nat) : Prop :=
  (((I ux1_0 1) ≤ x3 → post none (n, sh, Rf, I, L)) ∧ (¬ (I ux1_0 1) ≤ x3 → Ev (qGG D cA b E) mRun_hasFarm 0 (0, 0) 0 (lv_args 0 [.ref x1, .int x2, .int x3]) [] (n, sh, Rf, I, L) (fun v τ => ∃ (r3 : Int32) (I4 : Nat → Nat → Int32) (L5 : Nat → Nat → Int64), v = some (.int r3) ∧ τ = (n, sh, Rf, I4, L5) ∧ ((¬ r3 = 0 → fWay_weighFounding_91_3 D cA b E o n sh Rf I4 L5 post x1 x2 x3 x4 ux1_0 ux1_1) ∧ (r3 = 0 → vp_in x2 6 ∧ (((lg_cmp (L5 (x1 + 61) (x2 : Int32).toNatClampNeg) (((I4 ux1_1 5) : Int32).toInt64)) < 0 → fWay_weighFounding_91_3 D cA b E o n sh Rf I4 L5 post x1 x2 x3 x4 ux1_0 ux1_1) ∧ (¬ (lg_cmp (L5 (x1 + 61) (x2 : Int32).toNatClampNeg) (((I4 ux1_1 5) : Int32).toInt64)) < 0 → Ev (qGG D cA b E) mRun_rateAt 2 (0, 0) 0 (lv_args 0 [.ref x1, .int x3, .int 0]) [] (n, sh, Rf, I4, L5) (fun v τ => ∃ (r10 : Int32) (I11 : Nat → Nat → Int32) (L12 : Nat → Nat → Int64), v = some (.int r10) ∧ τ = (n, sh, Rf, I11, L12) ∧ Ev (qGG D cA b E) mWay_weigh 0 (0, 0) 0 (lv_args 0 [.ref o, .int 3, .int x3, .int ((-1)), .int 1, .int 0, .long ((((24 * (((r10 : Int32).toInt64 * (L12 o 7)) - ((I11 ux1_1 6) : Int32).toInt64)) - ((I11 ux1_1 5) : Int32).toInt64) / 24))]) [] (n, sh, Rf, I11, L12) (fun v τ => ∃ (I15 : Nat → Nat → Int32) (L16 : Nat → Nat → Int64), v = none ∧ τ = (n, sh, Rf, I15, L16) ∧ fWay_weighFounding_91_3 D cA b E o n sh Rf I15 L16 post x1 x2 x3 (((r10 : Int32).toInt64 * (L12 o 7)) - ((I11 ux1_1 6) : Int32).toInt64) ux1_0 ux1_1)))))))))
set_option maxHeartbeats 4000000 in
set_option maxRecDepth 20000 in
theorem sWay_weighFounding_2_4 {D : va_G} {cA : FieldType → ClassId} {b : Nat} {E : State → Prop} (o : Nat) (n : Nat) (sh : Nat → qC) (Rf : Nat → Nat → Option Nat) (I : Nat → Nat → Int32) (L : Nat → Nat → Int64) (post : Option Value → qS → Prop) (x1 : Nat) (x2 : Int32) (x3 : Int32) (x4 : Int64) (ux1_0 : Nat) (ux1_1 : Nat) (hok : q_ok (qGG D cA b E)) (hw : WfWay (qGG D cA b E) n sh Rf o) (hw1 : WfRun (qGG D cA b E) n sh Rf x1) (hux1_0 : Rf x1 0 = some ux1_0) (hwux1_0 : WfLand (qGG D cA b E) n sh Rf ux1_0) (hux1_1 : Rf x1 1 = some ux1_1) (hwux1_1 : WfTrade (qGG D cA b E) n sh Rf ux1_1) (H : fWay_weighFounding_2_4 D cA b E o n sh Rf I L post x1 x2 x3 x4 ux1_0 ux1_1) : Ev (qGG D cA b E) mWay_weighFounding 3 (0, 0) 2 [(0, .ref o), (1, .ref x1), (2, .int x2), (3, .int x3), (4, .long x4)] [] (n, sh, Rf, I, L) post := by
  unfold fWay_weighFounding_2_4 at H
  refine ev_iload_n dWay_weighFounding_2 rfl ?_
  refine ev_aload_n dWay_weighFounding_3 rfl ?_
  refine ev_getR hok fk_Way_39 (woRun hw1) (fun _ _ _ => rfl) hux1_0 dWay_weighFounding_4 ?_
  refine ev_getI hok fk_Way_89 (woLand hwux1_0) (fun _ _ _ => rfl) dWay_weighFounding_7 ?_
  refine ev_icmp_ge 97 dWay_weighFounding_10 (by decide) (fun c1 => ?_) (fun c1 => ?_)
  · have H := H.1 c1
    exact ev_vret rfl dWay_weighFounding_97 H
  · have H := H.2 c1
    refine ev_aload_n dWay_weighFounding_13 rfl ?_
    refine ev_iload_n dWay_weighFounding_14 rfl ?_
    refine ev_iload_n dWay_weighFounding_15 rfl ?_
    refine ev_callV [.int x2, .int x3] [] (B' := (0, 0)) (B'' := (0, 0)) hok mmRun_hasFarm mk_Way_138 (ci := 7) rfl rfl (woRun hw1) rfl (Nat.le_of_ble_eq_true rfl) rfl (Nat.le_of_ble_eq_true rfl) dWay_weighFounding_16 rfl (by decide) H (fun v τ p2 => ?_)
    obtain ⟨r3, I4, L5, rfl, rfl, H⟩ := p2
    refine ev_if_ne 91 dWay_weighFounding_19 (by decide) (fun c6 => ?_) (fun c6 => ?_)
    · have H := H.1 c6
      exact ev_sub [(0, .ref o), (1, .ref x1), (2, .int x2), (3, .int x3), (4, .long x4)] rfl (sWay_weighFounding_91_3 o n sh Rf I4 L5 post x1 x2 x3 x4 ux1_0 ux1_1 hok hw hw1 hux1_0 hwux1_0 hux1_1 hwux1_1 H)
    · have H := H.2 c6
      refine ev_aload_n dWay_weighFounding_22 rfl ?_
      refine ev_getR hok fk_Way_79 (woRun hw1) (fun _ _ _ => rfl) (wrRun_10 hw1) dWay_weighFounding_23 ?_
      refine ev_iload_n dWay_weighFounding_26 rfl ?_
      obtain ⟨h7, H⟩ := H
      refine ev_lald hok (waRun_10 hw1) h7 dWay_weighFounding_27 ?_
      refine ev_aload_n dWay_weighFounding_28 rfl ?_
      refine ev_getR hok fk_Way_70 (woRun hw1) (fun _ _ _ => rfl) hux1_1 dWay_weighFounding_29 ?_
      refine ev_getI hok fk_Way_141 (woTrade hwux1_1) (fun _ _ _ => rfl) dWay_weighFounding_32 ?_
      refine ev_i2l dWay_weighFounding_35 ?_
      refine ev_lcmp dWay_weighFounding_36 ?_
      refine ev_if_lt 91 dWay_weighFounding_37 (by decide) (fun c8 => ?_) (fun c8 => ?_)
      · have H := H.1 c8
        exact ev_sub [(0, .ref o), (1, .ref x1), (2, .int x2), (3, .int x3), (4, .long x4)] rfl (sWay_weighFounding_91_3 o n sh Rf I4 L5 post x1 x2 x3 x4 ux1_0 ux1_1 hok hw hw1 hux1_0 hwux1_0 hux1_1 hwux1_1 H)
      · have H := H.2 c8
        refine ev_aload_n dWay_weighFounding_40 rfl ?_
        refine ev_iload_n dWay_weighFounding_41 rfl ?_
        refine ev_iconst (0) dWay_weighFounding_42 (by decide) ?_
        refine ev_callV [.int x3, .int 0] [] (B' := (0, 0)) (B'' := (0, 0)) hok mmRun_rateAt mk_Way_124 (ci := 7) rfl rfl (woRun hw1) rfl (Nat.le_of_ble_eq_true rfl) rfl (Nat.le_of_ble_eq_true rfl) dWay_weighFounding_43 rfl (by decide) H (fun v τ p9 => ?_)
        obtain ⟨r10, I11, L12, rfl, rfl, H⟩ := p9
        refine ev_i2l dWay_weighFounding_46 ?_
        refine ev_aload_n dWay_weighFounding_47 rfl ?_
        refine ev_getL hok fk_Way_34 (woWay hw) (fun _ _ _ => rfl) dWay_weighFounding_48 ?_
        refine ev_lmul dWay_weighFounding_51 ?_
        refine ev_aload_n dWay_weighFounding_52 rfl ?_
        refine ev_getR hok fk_Way_70 (woRun hw1) (fun _ _ _ => rfl) hux1_1 dWay_weighFounding_53 ?_
        refine ev_getI hok fk_Way_131 (woTrade hwux1_1) (fun _ _ _ => rfl) dWay_weighFounding_56 ?_
        refine ev_i2l dWay_weighFounding_59 ?_
        refine ev_lsub dWay_weighFounding_60 ?_
        refine ev_lstore dWay_weighFounding_61 (by decide) ?_
        refine ev_aload_n dWay_weighFounding_63 rfl ?_
        refine ev_iconst (3) dWay_weighFounding_64 (by decide) ?_
        refine ev_iload_n dWay_weighFounding_65 rfl ?_
        refine ev_iconst (-1) dWay_weighFounding_66 (by decide) ?_
        refine ev_iconst (1) dWay_weighFounding_67 (by decide) ?_
        refine ev_iconst (0) dWay_weighFounding_68 (by decide) ?_
        refine ev_ldc2 (24) dWay_weighFounding_69 (q_t6 106 (by decide +kernel) rfl) ?_
        refine ev_lload dWay_weighFounding_72 rfl ?_
        refine ev_lmul dWay_weighFounding_74 ?_
        refine ev_aload_n dWay_weighFounding_75 rfl ?_
        refine ev_getR hok fk_Way_70 (woRun hw1) (fun _ _ _ => rfl) hux1_1 dWay_weighFounding_76 ?_
        refine ev_getI hok fk_Way_141 (woTrade hwux1_1) (fun _ _ _ => rfl) dWay_weighFounding_79 ?_
        refine ev_i2l dWay_weighFounding_82 ?_
        refine ev_lsub dWay_weighFounding_83 ?_
        refine ev_ldc2 (24) dWay_weighFounding_84 (q_t6 106 (by decide +kernel) rfl) ?_
        refine ev_ldiv dWay_weighFounding_87 (by decide) ?_
        refine ev_callV [.int 3, .int x3, .int ((-1)), .int 1, .int 0, .long ((((24 * (((r10 : Int32).toInt64 * (L12 o 7)) - ((I11 ux1_1 6) : Int32).toInt64)) - ((I11 ux1_1 5) : Int32).toInt64) / 24))] [] (B' := (0, 0)) (B'' := (0, 0)) hok mmWay_weigh mk_Way_127 (ci := 10) rfl rfl (woWay hw) rfl (Nat.le_of_ble_eq_true rfl) rfl (Nat.le_of_ble_eq_true rfl) dWay_weighFounding_88 rfl (by decide) H (fun v τ p13 => ?_)
        obtain ⟨I15, L16, rfl, rfl, H⟩ := p13
        exact ev_sub [(0, .ref o), (1, .ref x1), (2, .int x2), (3, .int x3), (4, .long ((((r10 : Int32).toInt64 * (L12 o 7)) - ((I11 ux1_1 6) : Int32).toInt64)))] rfl (sWay_weighFounding_91_3 o n sh Rf I15 L16 post x1 x2 x3 (((r10 : Int32).toInt64 * (L12 o 7)) - ((I11 ux1_1 6) : Int32).toInt64) ux1_0 ux1_1 hok hw hw1 hux1_0 hwux1_0 hux1_1 hwux1_1 H)
def fWay_weighFounding_0 (D : va_G) (cA : FieldType → ClassId) (b : Nat) (E : State → Prop) (o : Nat) (n : Nat) (sh : Nat → qC) (Rf : Nat → Nat → Option Nat) (I : Nat → Nat → Int32) (L : Nat → Nat → Int64) (post : Option Value → qS → Prop) (x1 : Nat) (x2 : Int32) (ux1_0 : Nat) (ux1_1 : Nat) : Prop :=
  Ev (qGG D cA b E) mWay_weighFounding 3 (0, 0) 2 [(0, .ref o), (1, .ref x1), (2, .int x2), (3, .int 0)] [] (n, sh, Rf, I, L) post
set_option maxHeartbeats 4000000 in
set_option maxRecDepth 20000 in
theorem sWay_weighFounding_0 {D : va_G} {cA : FieldType → ClassId} {b : Nat} {E : State → Prop} (o : Nat) (n : Nat) (sh : Nat → qC) (Rf : Nat → Nat → Option Nat) (I : Nat → Nat → Int32) (L : Nat → Nat → Int64) (post : Option Value → qS → Prop) (x1 : Nat) (x2 : Int32) (ux1_0 : Nat) (ux1_1 : Nat) (hok : q_ok (qGG D cA b E)) (hw : WfWay (qGG D cA b E) n sh Rf o) (hw1 : WfRun (qGG D cA b E) n sh Rf x1) (hux1_0 : Rf x1 0 = some ux1_0) (hwux1_0 : WfLand (qGG D cA b E) n sh Rf ux1_0) (hux1_1 : Rf x1 1 = some ux1_1) (hwux1_1 : WfTrade (qGG D cA b E) n sh Rf ux1_1) (H : fWay_weighFounding_0 D cA b E o n sh Rf I L post x1 x2 ux1_0 ux1_1) : Ev (qGG D cA b E) mWay_weighFounding 3 (0, 0) 0 [(0, .ref o), (1, .ref x1), (2, .int x2)] [] (n, sh, Rf, I, L) post := by
  unfold fWay_weighFounding_0 at H
  refine ev_iconst (0) dWay_weighFounding_0 (by decide) ?_
  refine ev_istore_n dWay_weighFounding_1 (by decide) ?_
  exact ev_sub [(0, .ref o), (1, .ref x1), (2, .int x2), (3, .int 0)] rfl H
def fLand_readLine_67 (D : va_G) (cA : FieldType → ClassId) (b : Nat) (E : State → Prop) (o : Nat) (n : Nat) (sh : Nat → qC) (Rf : Nat → Nat → Option Nat) (I : Nat → Nat → Int32) (L : Nat → Nat → Int64) (post : Option Value → qS → Prop) (x1 : Nat) : Prop :=
  Ev (qGG D cA b E) mTape_isWord 0 (0, 0) 0 (lv_args 0 [.ref x1, .int 8]) [] (n, sh, Rf, I, L) (fun v τ => ∃ (r2 : Int32) (I3 : Nat → Nat → Int32) (L4 : Nat → Nat → Int64), v = some (.int r2) ∧ τ = (n, sh, Rf, I3, L4) ∧ ((r2 = 0 → Ev (qGG D cA b E) mTape_refuse 0 (0, 0) 0 (lv_args 0 [.ref x1, .int 2]) [] (n, sh, Rf, I3, L4) (fun v τ => ∃ (I8 : Nat → Nat → Int32) (L9 : Nat → Nat → Int64), v = none ∧ τ = (n, sh, Rf, I8, L9) ∧ post (some (.int 0)) (n, sh, Rf, I8, L9))) ∧ (¬ r2 = 0 → ((5 ≤ (I3 o 3) → Ev (qGG D cA b E) mTape_refuse 0 (0, 0) 0 (lv_args 0 [.ref x1, .int 2]) [] (n, sh, Rf, I3, L4) (fun v τ => ∃ (I13 : Nat → Nat → Int32) (L14 : Nat → Nat → Int64), v = none ∧ τ = (n, sh, Rf, I13, L14) ∧ post (some (.int 0)) (n, sh, Rf, I13, L14))) ∧ (¬ 5 ≤ (I3 o 3) → Ev (qGG D cA b E) mLand_readTown 3 (0, 0) 0 (lv_args 0 [.ref o, .ref x1]) [] (n, sh, Rf, I3, L4) (fun v τ => ∃ (r16 : Int32) (I17 : Nat → Nat → Int32) (L18 : Nat → Nat → Int64), v = some (.int r16) ∧ τ = (n, sh, Rf, I17, L18) ∧ ((r16 = 0 ∨ r16 = 1) ∧ post (some (.int r16)) (n, sh, Rf, I17, L18))))))))
set_option maxHeartbeats 4000000 in
set_option maxRecDepth 20000 in
theorem sLand_readLine_67 {D : va_G} {cA : FieldType → ClassId} {b : Nat} {E : State → Prop} (o : Nat) (n : Nat) (sh : Nat → qC) (Rf : Nat → Nat → Option Nat) (I : Nat → Nat → Int32) (L : Nat → Nat → Int64) (post : Option Value → qS → Prop) (x1 : Nat) (hok : q_ok (qGG D cA b E)) (hw : WfLand (qGG D cA b E) n sh Rf o) (hw1 : WfTape (qGG D cA b E) n sh Rf x1) (H : fLand_readLine_67 D cA b E o n sh Rf I L post x1) : Ev (qGG D cA b E) mLand_readLine 4 (0, 0) 67 [(0, .ref o), (1, .ref x1)] [] (n, sh, Rf, I, L) post := by
  unfold fLand_readLine_67 at H
  refine ev_aload_n dLand_readLine_67 rfl ?_
  refine ev_bipush (8) dLand_readLine_68 (by decide) ?_
  refine ev_callV [.int 8] [] (B' := (0, 0)) (B'' := (0, 0)) hok mmTape_isWord mk_Land_100 (ci := 8) rfl rfl (woTape hw1) rfl (Nat.le_of_ble_eq_true rfl) rfl (Nat.le_of_ble_eq_true rfl) dLand_readLine_70 rfl (by decide) H (fun v τ p1 => ?_)
  obtain ⟨r2, I3, L4, rfl, rfl, H⟩ := p1
  refine ev_if_eq 90 dLand_readLine_73 (by decide) (fun c5 => ?_) (fun c5 => ?_)
  · have H := H.1 c5
    refine ev_aload_n dLand_readLine_90 rfl ?_
    refine ev_iconst (2) dLand_readLine_91 (by decide) ?_
    refine ev_callV [.int 2] [] (B' := (0, 0)) (B'' := (0, 0)) hok mmTape_refuse mk_Land_116 (ci := 8) rfl rfl (woTape hw1) rfl (Nat.le_of_ble_eq_true rfl) rfl (Nat.le_of_ble_eq_true rfl) dLand_readLine_92 rfl (by decide) H (fun v τ p6 => ?_)
    obtain ⟨I8, L9, rfl, rfl, H⟩ := p6
    refine ev_iconst (0) dLand_readLine_95 (by decide) ?_
    exact ev_zret rfl (by decide) dLand_readLine_96 H
  · have H := H.2 c5
    refine ev_aload_n dLand_readLine_76 rfl ?_
    refine ev_getI hok fk_Land_21 (woLand hw) (fun _ _ _ => rfl) dLand_readLine_77 ?_
    refine ev_iconst (5) dLand_readLine_80 (by decide) ?_
    refine ev_icmp_ge 90 dLand_readLine_81 (by decide) (fun c10 => ?_) (fun c10 => ?_)
    · have H := H.1 c10
      refine ev_aload_n dLand_readLine_90 rfl ?_
      refine ev_iconst (2) dLand_readLine_91 (by decide) ?_
      refine ev_callV [.int 2] [] (B' := (0, 0)) (B'' := (0, 0)) hok mmTape_refuse mk_Land_116 (ci := 8) rfl rfl (woTape hw1) rfl (Nat.le_of_ble_eq_true rfl) rfl (Nat.le_of_ble_eq_true rfl) dLand_readLine_92 rfl (by decide) H (fun v τ p11 => ?_)
      obtain ⟨I13, L14, rfl, rfl, H⟩ := p11
      refine ev_iconst (0) dLand_readLine_95 (by decide) ?_
      exact ev_zret rfl (by decide) dLand_readLine_96 H
    · have H := H.2 c10
      refine ev_aload_n dLand_readLine_84 rfl ?_
      refine ev_aload_n dLand_readLine_85 rfl ?_
      refine ev_callV [.ref x1] [] (B' := (0, 0)) (B'' := (0, 0)) hok mmLand_readTown mk_Land_113 (ci := 1) rfl rfl (woLand hw) rfl (Nat.le_of_ble_eq_true rfl) rfl (Nat.le_of_ble_eq_true rfl) dLand_readLine_86 rfl (by decide) H (fun v τ p15 => ?_)
      obtain ⟨r16, I17, L18, rfl, rfl, H⟩ := p15
      exact ev_zret rfl (q_bz H.1) dLand_readLine_89 H.2
def fLand_readLine_45 (D : va_G) (cA : FieldType → ClassId) (b : Nat) (E : State → Prop) (o : Nat) (n : Nat) (sh : Nat → qC) (Rf : Nat → Nat → Option Nat) (I : Nat → Nat → Int32) (L : Nat → Nat → Int64) (post : Option Value → qS → Prop) (x1 : Nat) : Prop :=
  Ev (qGG D cA b E) mTape_isWord 0 (0, 0) 0 (lv_args 0 [.ref x1, .int 5]) [] (n, sh, Rf, I, L) (fun v τ => ∃ (r2 : Int32) (I3 : Nat → Nat → Int32) (L4 : Nat → Nat → Int64), v = some (.int r2) ∧ τ = (n, sh, Rf, I3, L4) ∧ ((r2 = 0 → fLand_readLine_67 D cA b E o n sh Rf I3 L4 post x1) ∧ (¬ r2 = 0 → ((3 ≤ (I3 o 2) → fLand_readLine_67 D cA b E o n sh Rf I3 L4 post x1) ∧ (¬ 3 ≤ (I3 o 2) → Ev (qGG D cA b E) mLand_readPan 3 (0, 0) 0 (lv_args 0 [.ref o, .ref x1]) [] (n, sh, Rf, I3, L4) (fun v τ => ∃ (r8 : Int32) (I9 : Nat → Nat → Int32) (L10 : Nat → Nat → Int64), v = some (.int r8) ∧ τ = (n, sh, Rf, I9, L10) ∧ ((r8 = 0 ∨ r8 = 1) ∧ post (some (.int r8)) (n, sh, Rf, I9, L10))))))))
set_option maxHeartbeats 4000000 in
set_option maxRecDepth 20000 in
theorem sLand_readLine_45 {D : va_G} {cA : FieldType → ClassId} {b : Nat} {E : State → Prop} (o : Nat) (n : Nat) (sh : Nat → qC) (Rf : Nat → Nat → Option Nat) (I : Nat → Nat → Int32) (L : Nat → Nat → Int64) (post : Option Value → qS → Prop) (x1 : Nat) (hok : q_ok (qGG D cA b E)) (hw : WfLand (qGG D cA b E) n sh Rf o) (hw1 : WfTape (qGG D cA b E) n sh Rf x1) (H : fLand_readLine_45 D cA b E o n sh Rf I L post x1) : Ev (qGG D cA b E) mLand_readLine 4 (0, 0) 45 [(0, .ref o), (1, .ref x1)] [] (n, sh, Rf, I, L) post := by
  unfold fLand_readLine_45 at H
  refine ev_aload_n dLand_readLine_45 rfl ?_
  refine ev_iconst (5) dLand_readLine_46 (by decide) ?_
  refine ev_callV [.int 5] [] (B' := (0, 0)) (B'' := (0, 0)) hok mmTape_isWord mk_Land_100 (ci := 8) rfl rfl (woTape hw1) rfl (Nat.le_of_ble_eq_true rfl) rfl (Nat.le_of_ble_eq_true rfl) dLand_readLine_47 rfl (by decide) H (fun v τ p1 => ?_)
  obtain ⟨r2, I3, L4, rfl, rfl, H⟩ := p1
  refine ev_if_eq 67 dLand_readLine_50 (by decide) (fun c5 => ?_) (fun c5 => ?_)
  · have H := H.1 c5
    exact ev_sub [(0, .ref o), (1, .ref x1)] rfl (sLand_readLine_67 o n sh Rf I3 L4 post x1 hok hw hw1 H)
  · have H := H.2 c5
    refine ev_aload_n dLand_readLine_53 rfl ?_
    refine ev_getI hok fk_Land_18 (woLand hw) (fun _ _ _ => rfl) dLand_readLine_54 ?_
    refine ev_iconst (3) dLand_readLine_57 (by decide) ?_
    refine ev_icmp_ge 67 dLand_readLine_58 (by decide) (fun c6 => ?_) (fun c6 => ?_)
    · have H := H.1 c6
      exact ev_sub [(0, .ref o), (1, .ref x1)] rfl (sLand_readLine_67 o n sh Rf I3 L4 post x1 hok hw hw1 H)
    · have H := H.2 c6
      refine ev_aload_n dLand_readLine_61 rfl ?_
      refine ev_aload_n dLand_readLine_62 rfl ?_
      refine ev_callV [.ref x1] [] (B' := (0, 0)) (B'' := (0, 0)) hok mmLand_readPan mk_Land_110 (ci := 1) rfl rfl (woLand hw) rfl (Nat.le_of_ble_eq_true rfl) rfl (Nat.le_of_ble_eq_true rfl) dLand_readLine_63 rfl (by decide) H (fun v τ p7 => ?_)
      obtain ⟨r8, I9, L10, rfl, rfl, H⟩ := p7
      exact ev_zret rfl (q_bz H.1) dLand_readLine_66 H.2
def fLand_readLine_23 (D : va_G) (cA : FieldType → ClassId) (b : Nat) (E : State → Prop) (o : Nat) (n : Nat) (sh : Nat → qC) (Rf : Nat → Nat → Option Nat) (I : Nat → Nat → Int32) (L : Nat → Nat → Int64) (post : Option Value → qS → Prop) (x1 : Nat) : Prop :=
  Ev (qGG D cA b E) mTape_isWord 0 (0, 0) 0 (lv_args 0 [.ref x1, .int 1]) [] (n, sh, Rf, I, L) (fun v τ => ∃ (r2 : Int32) (I3 : Nat → Nat → Int32) (L4 : Nat → Nat → Int64), v = some (.int r2) ∧ τ = (n, sh, Rf, I3, L4) ∧ ((r2 = 0 → fLand_readLine_45 D cA b E o n sh Rf I3 L4 post x1) ∧ (¬ r2 = 0 → ((3 ≤ (I3 o 1) → fLand_readLine_45 D cA b E o n sh Rf I3 L4 post x1) ∧ (¬ 3 ≤ (I3 o 1) → Ev (qGG D cA b E) mLand_readFort 3 (0, 0) 0 (lv_args 0 [.ref o, .ref x1]) [] (n, sh, Rf, I3, L4) (fun v τ => ∃ (r8 : Int32) (I9 : Nat → Nat → Int32) (L10 : Nat → Nat → Int64), v = some (.int r8) ∧ τ = (n, sh, Rf, I9, L10) ∧ ((r8 = 0 ∨ r8 = 1) ∧ post (some (.int r8)) (n, sh, Rf, I9, L10))))))))
set_option maxHeartbeats 4000000 in
set_option maxRecDepth 20000 in
theorem sLand_readLine_23 {D : va_G} {cA : FieldType → ClassId} {b : Nat} {E : State → Prop} (o : Nat) (n : Nat) (sh : Nat → qC) (Rf : Nat → Nat → Option Nat) (I : Nat → Nat → Int32) (L : Nat → Nat → Int64) (post : Option Value → qS → Prop) (x1 : Nat) (hok : q_ok (qGG D cA b E)) (hw : WfLand (qGG D cA b E) n sh Rf o) (hw1 : WfTape (qGG D cA b E) n sh Rf x1) (H : fLand_readLine_23 D cA b E o n sh Rf I L post x1) : Ev (qGG D cA b E) mLand_readLine 4 (0, 0) 23 [(0, .ref o), (1, .ref x1)] [] (n, sh, Rf, I, L) post := by
  unfold fLand_readLine_23 at H
  refine ev_aload_n dLand_readLine_23 rfl ?_
  refine ev_iconst (1) dLand_readLine_24 (by decide) ?_
  refine ev_callV [.int 1] [] (B' := (0, 0)) (B'' := (0, 0)) hok mmTape_isWord mk_Land_100 (ci := 8) rfl rfl (woTape hw1) rfl (Nat.le_of_ble_eq_true rfl) rfl (Nat.le_of_ble_eq_true rfl) dLand_readLine_25 rfl (by decide) H (fun v τ p1 => ?_)
  obtain ⟨r2, I3, L4, rfl, rfl, H⟩ := p1
  refine ev_if_eq 45 dLand_readLine_28 (by decide) (fun c5 => ?_) (fun c5 => ?_)
  · have H := H.1 c5
    exact ev_sub [(0, .ref o), (1, .ref x1)] rfl (sLand_readLine_45 o n sh Rf I3 L4 post x1 hok hw hw1 H)
  · have H := H.2 c5
    refine ev_aload_n dLand_readLine_31 rfl ?_
    refine ev_getI hok fk_Land_15 (woLand hw) (fun _ _ _ => rfl) dLand_readLine_32 ?_
    refine ev_iconst (3) dLand_readLine_35 (by decide) ?_
    refine ev_icmp_ge 45 dLand_readLine_36 (by decide) (fun c6 => ?_) (fun c6 => ?_)
    · have H := H.1 c6
      exact ev_sub [(0, .ref o), (1, .ref x1)] rfl (sLand_readLine_45 o n sh Rf I3 L4 post x1 hok hw hw1 H)
    · have H := H.2 c6
      refine ev_aload_n dLand_readLine_39 rfl ?_
      refine ev_aload_n dLand_readLine_40 rfl ?_
      refine ev_callV [.ref x1] [] (B' := (0, 0)) (B'' := (0, 0)) hok mmLand_readFort mk_Land_107 (ci := 1) rfl rfl (woLand hw) rfl (Nat.le_of_ble_eq_true rfl) rfl (Nat.le_of_ble_eq_true rfl) dLand_readLine_41 rfl (by decide) H (fun v τ p7 => ?_)
      obtain ⟨r8, I9, L10, rfl, rfl, H⟩ := p7
      exact ev_zret rfl (q_bz H.1) dLand_readLine_44 H.2
def fLand_readLine_0 (D : va_G) (cA : FieldType → ClassId) (b : Nat) (E : State → Prop) (o : Nat) (n : Nat) (sh : Nat → qC) (Rf : Nat → Nat → Option Nat) (I : Nat → Nat → Int32) (L : Nat → Nat → Int64) (post : Option Value → qS → Prop) (x1 : Nat) : Prop :=
  Ev (qGG D cA b E) mTape_isWord 0 (0, 0) 0 (lv_args 0 [.ref x1, .int 0]) [] (n, sh, Rf, I, L) (fun v τ => ∃ (r2 : Int32) (I3 : Nat → Nat → Int32) (L4 : Nat → Nat → Int64), v = some (.int r2) ∧ τ = (n, sh, Rf, I3, L4) ∧ ((r2 = 0 → fLand_readLine_23 D cA b E o n sh Rf I3 L4 post x1) ∧ (¬ r2 = 0 → ((24 ≤ (I3 o 0) → fLand_readLine_23 D cA b E o n sh Rf I3 L4 post x1) ∧ (¬ 24 ≤ (I3 o 0) → Ev (qGG D cA b E) mLand_readRoad 3 (0, 0) 0 (lv_args 0 [.ref o, .ref x1]) [] (n, sh, Rf, I3, L4) (fun v τ => ∃ (r8 : Int32) (I9 : Nat → Nat → Int32) (L10 : Nat → Nat → Int64), v = some (.int r8) ∧ τ = (n, sh, Rf, I9, L10) ∧ ((r8 = 0 ∨ r8 = 1) ∧ post (some (.int r8)) (n, sh, Rf, I9, L10))))))))
set_option maxHeartbeats 4000000 in
set_option maxRecDepth 20000 in
theorem sLand_readLine_0 {D : va_G} {cA : FieldType → ClassId} {b : Nat} {E : State → Prop} (o : Nat) (n : Nat) (sh : Nat → qC) (Rf : Nat → Nat → Option Nat) (I : Nat → Nat → Int32) (L : Nat → Nat → Int64) (post : Option Value → qS → Prop) (x1 : Nat) (hok : q_ok (qGG D cA b E)) (hw : WfLand (qGG D cA b E) n sh Rf o) (hw1 : WfTape (qGG D cA b E) n sh Rf x1) (H : fLand_readLine_0 D cA b E o n sh Rf I L post x1) : Ev (qGG D cA b E) mLand_readLine 4 (0, 0) 0 [(0, .ref o), (1, .ref x1)] [] (n, sh, Rf, I, L) post := by
  unfold fLand_readLine_0 at H
  refine ev_aload_n dLand_readLine_0 rfl ?_
  refine ev_iconst (0) dLand_readLine_1 (by decide) ?_
  refine ev_callV [.int 0] [] (B' := (0, 0)) (B'' := (0, 0)) hok mmTape_isWord mk_Land_100 (ci := 8) rfl rfl (woTape hw1) rfl (Nat.le_of_ble_eq_true rfl) rfl (Nat.le_of_ble_eq_true rfl) dLand_readLine_2 rfl (by decide) H (fun v τ p1 => ?_)
  obtain ⟨r2, I3, L4, rfl, rfl, H⟩ := p1
  refine ev_if_eq 23 dLand_readLine_5 (by decide) (fun c5 => ?_) (fun c5 => ?_)
  · have H := H.1 c5
    exact ev_sub [(0, .ref o), (1, .ref x1)] rfl (sLand_readLine_23 o n sh Rf I3 L4 post x1 hok hw hw1 H)
  · have H := H.2 c5
    refine ev_aload_n dLand_readLine_8 rfl ?_
    refine ev_getI hok fk_Land_9 (woLand hw) (fun _ _ _ => rfl) dLand_readLine_9 ?_
    refine ev_bipush (24) dLand_readLine_12 (by decide) ?_
    refine ev_icmp_ge 23 dLand_readLine_14 (by decide) (fun c6 => ?_) (fun c6 => ?_)
    · have H := H.1 c6
      exact ev_sub [(0, .ref o), (1, .ref x1)] rfl (sLand_readLine_23 o n sh Rf I3 L4 post x1 hok hw hw1 H)
    · have H := H.2 c6
      refine ev_aload_n dLand_readLine_17 rfl ?_
      refine ev_aload_n dLand_readLine_18 rfl ?_
      refine ev_callV [.ref x1] [] (B' := (0, 0)) (B'' := (0, 0)) hok mmLand_readRoad mk_Land_104 (ci := 1) rfl rfl (woLand hw) rfl (Nat.le_of_ble_eq_true rfl) rfl (Nat.le_of_ble_eq_true rfl) dLand_readLine_19 rfl (by decide) H (fun v τ p7 => ?_)
      obtain ⟨r8, I9, L10, rfl, rfl, H⟩ := p7
      exact ev_zret rfl (q_bz H.1) dLand_readLine_22 H.2
def fOffice_worth_0 (D : va_G) (cA : FieldType → ClassId) (b : Nat) (E : State → Prop) (o : Nat) (n : Nat) (sh : Nat → qC) (Rf : Nat → Nat → Option Nat) (I : Nat → Nat → Int32) (L : Nat → Nat → Int64) (post : Option Value → qS → Prop) (x1 : Int32) (uo_1 : Nat) : Prop :=
  (((I (o + 55) 15) = 0 → post (some (.long ((-1000000000000)))) (n, sh, Rf, I, L)) ∧ (¬ (I (o + 55) 15) = 0 → ((x1 < 0 → post (some (.long ((-1000000000000)))) (n, sh, Rf, I, L)) ∧ (¬ x1 < 0 → ((x1 < (I uo_1 2) → Ev (qGG D cA b E) mRun_townFor 3 (0, 0) 0 (lv_args 0 [.ref ((o + 55)), .int x1]) [] (n, sh, Rf, I, L) (fun v τ => ∃ (r5 : Int32) (I6 : Nat → Nat → Int32) (L7 : Nat → Nat → Int64), v = some (.int r5) ∧ τ = (n, sh, Rf, I6, L7) ∧ post (some (.long ((L7 (o + 55) 19)))) (n, sh, Rf, I6, L7))) ∧ (¬ x1 < (I uo_1 2) → post (some (.long ((-1000000000000)))) (n, sh, Rf, I, L)))))))
set_option maxHeartbeats 4000000 in
set_option maxRecDepth 20000 in
theorem sOffice_worth_0 {D : va_G} {cA : FieldType → ClassId} {b : Nat} {E : State → Prop} (o : Nat) (n : Nat) (sh : Nat → qC) (Rf : Nat → Nat → Option Nat) (I : Nat → Nat → Int32) (L : Nat → Nat → Int64) (post : Option Value → qS → Prop) (x1 : Int32) (uo_1 : Nat) (hok : q_ok (qGG D cA b E)) (hw : WfOffice (qGG D cA b E) n sh Rf o) (huo_1 : Rf o 1 = some uo_1) (hwuo_1 : WfLand (qGG D cA b E) n sh Rf uo_1) (H : fOffice_worth_0 D cA b E o n sh Rf I L post x1 uo_1) : Ev (qGG D cA b E) mOffice_worth 4 (0, 0) 0 [(0, .ref o), (1, .int x1)] [] (n, sh, Rf, I, L) post := by
  unfold fOffice_worth_0 at H
  refine ev_aload_n dOffice_worth_0 rfl ?_
  refine ev_getR hok fk_Office_58 (woOffice hw) (fun _ _ _ => rfl) (wrOffice_8 hw) dOffice_worth_1 ?_
  refine ev_getI hok fk_Office_79 (woRun (wsOffice_8 hw)) (fun _ _ _ => rfl) dOffice_worth_4 ?_
  refine ev_if_eq 25 dOffice_worth_7 (by decide) (fun c1 => ?_) (fun c1 => ?_)
  · have H := H.1 c1
    refine ev_ldc2 (-1000000000000) dOffice_worth_25 (q_t6 187 (by decide +kernel) rfl) ?_
    exact ev_lret rfl dOffice_worth_28 H
  · have H := H.2 c1
    refine ev_iload_n dOffice_worth_10 rfl ?_
    refine ev_if_lt 25 dOffice_worth_11 (by decide) (fun c2 => ?_) (fun c2 => ?_)
    · have H := H.1 c2
      refine ev_ldc2 (-1000000000000) dOffice_worth_25 (q_t6 187 (by decide +kernel) rfl) ?_
      exact ev_lret rfl dOffice_worth_28 H
    · have H := H.2 c2
      refine ev_iload_n dOffice_worth_14 rfl ?_
      refine ev_aload_n dOffice_worth_15 rfl ?_
      refine ev_getR hok fk_Office_19 (woOffice hw) (fun _ _ _ => rfl) huo_1 dOffice_worth_16 ?_
      refine ev_getI hok fk_Office_89 (woLand hwuo_1) (fun _ _ _ => rfl) dOffice_worth_19 ?_
      refine ev_icmp_lt 29 dOffice_worth_22 (by decide) (fun c3 => ?_) (fun c3 => ?_)
      · have H := H.1 c3
        refine ev_aload_n dOffice_worth_29 rfl ?_
        refine ev_getR hok fk_Office_58 (woOffice hw) (fun _ _ _ => rfl) (wrOffice_8 hw) dOffice_worth_30 ?_
        refine ev_iload_n dOffice_worth_33 rfl ?_
        refine ev_callV [.int x1] [] (B' := (0, 0)) (B'' := (0, 0)) hok mmRun_townFor mk_Office_221 (ci := 7) rfl rfl (woRun (wsOffice_8 hw)) rfl (Nat.le_of_ble_eq_true rfl) rfl (Nat.le_of_ble_eq_true rfl) dOffice_worth_34 rfl (by decide) H (fun v τ p4 => ?_)
        obtain ⟨r5, I6, L7, rfl, rfl, H⟩ := p4
        refine ev_pop dOffice_worth_37 rfl ?_
        refine ev_aload_n dOffice_worth_38 rfl ?_
        refine ev_getR hok fk_Office_58 (woOffice hw) (fun _ _ _ => rfl) (wrOffice_8 hw) dOffice_worth_39 ?_
        refine ev_getL hok fk_Office_225 (woRun (wsOffice_8 hw)) (fun _ _ _ => rfl) dOffice_worth_42 ?_
        exact ev_lret rfl dOffice_worth_45 H
      · have H := H.2 c3
        refine ev_ldc2 (-1000000000000) dOffice_worth_25 (q_t6 187 (by decide +kernel) rfl) ?_
        exact ev_lret rfl dOffice_worth_28 H
def fRun_buryDead_31 (D : va_G) (cA : FieldType → ClassId) (b : Nat) (E : State → Prop) (o : Nat) (n : Nat) (sh : Nat → qC) (Rf : Nat → Nat → Option Nat) (I : Nat → Nat → Int32) (L : Nat → Nat → Int64) (post : Option Value → qS → Prop) (x1 : Int32) (uo_1 : Nat) : Prop :=
  Ev (qGG D cA b E) mRun_buryDead 4 (0, 0) 2 [(0, .ref o), (1, .int ((x1 + Int32.ofInt 1)))] [] (n, sh, Rf, I, L) post
set_option maxHeartbeats 4000000 in
set_option maxRecDepth 20000 in
theorem sRun_buryDead_31 {D : va_G} {cA : FieldType → ClassId} {b : Nat} {E : State → Prop} (o : Nat) (n : Nat) (sh : Nat → qC) (Rf : Nat → Nat → Option Nat) (I : Nat → Nat → Int32) (L : Nat → Nat → Int64) (post : Option Value → qS → Prop) (x1 : Int32) (uo_1 : Nat) (hok : q_ok (qGG D cA b E)) (hw : WfRun (qGG D cA b E) n sh Rf o) (huo_1 : Rf o 1 = some uo_1) (hwuo_1 : WfTrade (qGG D cA b E) n sh Rf uo_1) (H : fRun_buryDead_31 D cA b E o n sh Rf I L post x1 uo_1) : Ev (qGG D cA b E) mRun_buryDead 4 (0, 0) 31 [(0, .ref o), (1, .int x1)] [] (n, sh, Rf, I, L) post := by
  unfold fRun_buryDead_31 at H
  refine ev_iinc dRun_buryDead_31 rfl (by decide) ?_
  refine ev_goto 2 dRun_buryDead_34 (by decide) ?_
  exact ev_sub [(0, .ref o), (1, .int ((x1 + Int32.ofInt 1)))] rfl H
def fRun_buryDead_2 (D : va_G) (cA : FieldType → ClassId) (b : Nat) (E : State → Prop) (o : Nat) (n : Nat) (sh : Nat → qC) (Rf : Nat → Nat → Option Nat) (I : Nat → Nat → Int32) (L : Nat → Nat → Int64) (post : Option Value → qS → Prop) (x1 : Int32) (uo_1 : Nat) : Prop :=
  (((I uo_1 1) ≤ x1 → post none (n, sh, Rf, I, L)) ∧ (¬ (I uo_1 1) ≤ x1 → vp_in x1 6 ∧ ((¬ (I (o + 63) (x1 : Int32).toNatClampNeg) = (I o 17) → fRun_buryDead_31 D cA b E o n sh Rf I L post x1 uo_1) ∧ ((I (o + 63) (x1 : Int32).toNatClampNeg) = (I o 17) → Ev (qGG D cA b E) mRun_bury 3 (0, 0) 0 (lv_args 0 [.ref o, .int x1]) [] (n, sh, Rf, I, L) (fun v τ => ∃ (I6 : Nat → Nat → Int32) (L7 : Nat → Nat → Int64), v = none ∧ τ = (n, sh, Rf, I6, L7) ∧ fRun_buryDead_31 D cA b E o n sh Rf I6 L7 post x1 uo_1)))))
set_option maxHeartbeats 4000000 in
set_option maxRecDepth 20000 in
theorem sRun_buryDead_2 {D : va_G} {cA : FieldType → ClassId} {b : Nat} {E : State → Prop} (o : Nat) (n : Nat) (sh : Nat → qC) (Rf : Nat → Nat → Option Nat) (I : Nat → Nat → Int32) (L : Nat → Nat → Int64) (post : Option Value → qS → Prop) (x1 : Int32) (uo_1 : Nat) (hok : q_ok (qGG D cA b E)) (hw : WfRun (qGG D cA b E) n sh Rf o) (huo_1 : Rf o 1 = some uo_1) (hwuo_1 : WfTrade (qGG D cA b E) n sh Rf uo_1) (H : fRun_buryDead_2 D cA b E o n sh Rf I L post x1 uo_1) : Ev (qGG D cA b E) mRun_buryDead 4 (0, 0) 2 [(0, .ref o), (1, .int x1)] [] (n, sh, Rf, I, L) post := by
  unfold fRun_buryDead_2 at H
  refine ev_iload_n dRun_buryDead_2 rfl ?_
  refine ev_aload_n dRun_buryDead_3 rfl ?_
  refine ev_getR hok fk_Run_21 (woRun hw) (fun _ _ _ => rfl) huo_1 dRun_buryDead_4 ?_
  refine ev_getI hok fk_Run_174 (woTrade hwuo_1) (fun _ _ _ => rfl) dRun_buryDead_7 ?_
  refine ev_icmp_ge 37 dRun_buryDead_10 (by decide) (fun c1 => ?_) (fun c1 => ?_)
  · have H := H.1 c1
    exact ev_vret rfl dRun_buryDead_37 H
  · have H := H.2 c1
    refine ev_aload_n dRun_buryDead_13 rfl ?_
    refine ev_getR hok fk_Run_81 (woRun hw) (fun _ _ _ => rfl) (wrRun_12 hw) dRun_buryDead_14 ?_
    refine ev_iload_n dRun_buryDead_17 rfl ?_
    obtain ⟨h2, H⟩ := H
    refine ev_iald hok (waRun_12 hw) h2 dRun_buryDead_18 ?_
    refine ev_aload_n dRun_buryDead_19 rfl ?_
    refine ev_getI hok fk_Run_98 (woRun hw) (fun _ _ _ => rfl) dRun_buryDead_20 ?_
    refine ev_icmp_ne 31 dRun_buryDead_23 (by decide) (fun c3 => ?_) (fun c3 => ?_)
    · have H := H.1 c3
      exact ev_sub [(0, .ref o), (1, .int x1)] rfl (sRun_buryDead_31 o n sh Rf I L post x1 uo_1 hok hw huo_1 hwuo_1 H)
    · have H := H.2 c3
      refine ev_aload_n dRun_buryDead_26 rfl ?_
      refine ev_iload_n dRun_buryDead_27 rfl ?_
      refine ev_callV [.int x1] [] (B' := (0, 0)) (B'' := (0, 0)) hok mmRun_bury mk_Run_209 (ci := 7) rfl rfl (woRun hw) rfl (Nat.le_of_ble_eq_true rfl) rfl (Nat.le_of_ble_eq_true rfl) dRun_buryDead_28 rfl (by decide) H (fun v τ p4 => ?_)
      obtain ⟨I6, L7, rfl, rfl, H⟩ := p4
      exact ev_sub [(0, .ref o), (1, .int x1)] rfl (sRun_buryDead_31 o n sh Rf I6 L7 post x1 uo_1 hok hw huo_1 hwuo_1 H)
def fRun_buryDead_0 (D : va_G) (cA : FieldType → ClassId) (b : Nat) (E : State → Prop) (o : Nat) (n : Nat) (sh : Nat → qC) (Rf : Nat → Nat → Option Nat) (I : Nat → Nat → Int32) (L : Nat → Nat → Int64) (post : Option Value → qS → Prop) (uo_1 : Nat) : Prop :=
  Ev (qGG D cA b E) mRun_buryDead 4 (0, 0) 2 [(0, .ref o), (1, .int 0)] [] (n, sh, Rf, I, L) post
set_option maxHeartbeats 4000000 in
set_option maxRecDepth 20000 in
theorem sRun_buryDead_0 {D : va_G} {cA : FieldType → ClassId} {b : Nat} {E : State → Prop} (o : Nat) (n : Nat) (sh : Nat → qC) (Rf : Nat → Nat → Option Nat) (I : Nat → Nat → Int32) (L : Nat → Nat → Int64) (post : Option Value → qS → Prop) (uo_1 : Nat) (hok : q_ok (qGG D cA b E)) (hw : WfRun (qGG D cA b E) n sh Rf o) (huo_1 : Rf o 1 = some uo_1) (hwuo_1 : WfTrade (qGG D cA b E) n sh Rf uo_1) (H : fRun_buryDead_0 D cA b E o n sh Rf I L post uo_1) : Ev (qGG D cA b E) mRun_buryDead 4 (0, 0) 0 [(0, .ref o)] [] (n, sh, Rf, I, L) post := by
  unfold fRun_buryDead_0 at H
  refine ev_iconst (0) dRun_buryDead_0 (by decide) ?_
  refine ev_istore_n dRun_buryDead_1 (by decide) ?_
  exact ev_sub [(0, .ref o), (1, .int 0)] rfl H
