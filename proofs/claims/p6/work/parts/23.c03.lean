/-! Walks of the class: by program. -/
def fLand_shortenWays_70 (D : va_G) (cA : FieldType → ClassId) (b : Nat) (E : State → Prop) (o : Nat) (n : Nat) (sh : Nat → qC) (Rf : Nat → Nat → Option Nat) (I : Nat → Nat → Int32) (L : Nat → Nat → Int64) (post : Option Value → qS → Prop) (x1 : Int32) (x2 : Int32) (x3 : Int32) (x4 : Int32) : Prop :=
  Ev (qGG D cA b E) mLand_shortenWays 2 (0, 0) 10 [(0, .ref o), (1, .int x1), (2, .int ((x2 + Int32.ofInt 1)))] [] (n, sh, Rf, I, L) post
set_option maxHeartbeats 4000000 in
set_option maxRecDepth 20000 in
theorem sLand_shortenWays_70 {D : va_G} {cA : FieldType → ClassId} {b : Nat} {E : State → Prop} (o : Nat) (n : Nat) (sh : Nat → qC) (Rf : Nat → Nat → Option Nat) (I : Nat → Nat → Int32) (L : Nat → Nat → Int64) (post : Option Value → qS → Prop) (x1 : Int32) (x2 : Int32) (x3 : Int32) (x4 : Int32) (hok : q_ok (qGG D cA b E)) (hw : WfLand (qGG D cA b E) n sh Rf o) (H : fLand_shortenWays_70 D cA b E o n sh Rf I L post x1 x2 x3 x4) : Ev (qGG D cA b E) mLand_shortenWays 2 (0, 0) 70 [(0, .ref o), (1, .int x1), (2, .int x2), (3, .int x3), (4, .int x4)] [] (n, sh, Rf, I, L) post := by
  unfold fLand_shortenWays_70 at H
  refine ev_iinc dLand_shortenWays_70 rfl (by decide) ?_
  refine ev_goto 10 dLand_shortenWays_73 (by decide) ?_
  exact ev_sub [(0, .ref o), (1, .int x1), (2, .int ((x2 + Int32.ofInt 1)))] rfl H
def fLand_shortenWays_64 (D : va_G) (cA : FieldType → ClassId) (b : Nat) (E : State → Prop) (o : Nat) (n : Nat) (sh : Nat → qC) (Rf : Nat → Nat → Option Nat) (I : Nat → Nat → Int32) (L : Nat → Nat → Int64) (post : Option Value → qS → Prop) (x1 : Int32) (x2 : Int32) (x3 : Int32) (x4 : Int32) (x5 : Int32) : Prop :=
  Ev (qGG D cA b E) mLand_shortenWays 2 (0, 0) 26 [(0, .ref o), (1, .int x1), (2, .int x2), (3, .int x3), (4, .int ((x4 + Int32.ofInt 1)))] [] (n, sh, Rf, I, L) post
set_option maxHeartbeats 4000000 in
set_option maxRecDepth 20000 in
theorem sLand_shortenWays_64 {D : va_G} {cA : FieldType → ClassId} {b : Nat} {E : State → Prop} (o : Nat) (n : Nat) (sh : Nat → qC) (Rf : Nat → Nat → Option Nat) (I : Nat → Nat → Int32) (L : Nat → Nat → Int64) (post : Option Value → qS → Prop) (x1 : Int32) (x2 : Int32) (x3 : Int32) (x4 : Int32) (x5 : Int32) (hok : q_ok (qGG D cA b E)) (hw : WfLand (qGG D cA b E) n sh Rf o) (H : fLand_shortenWays_64 D cA b E o n sh Rf I L post x1 x2 x3 x4 x5) : Ev (qGG D cA b E) mLand_shortenWays 2 (0, 0) 64 [(0, .ref o), (1, .int x1), (2, .int x2), (3, .int x3), (4, .int x4), (5, .int x5)] [] (n, sh, Rf, I, L) post := by
  unfold fLand_shortenWays_64 at H
  refine ev_iinc dLand_shortenWays_64 rfl (by decide) ?_
  refine ev_goto 26 dLand_shortenWays_67 (by decide) ?_
  exact ev_sub [(0, .ref o), (1, .int x1), (2, .int x2), (3, .int x3), (4, .int ((x4 + Int32.ofInt 1)))] rfl H
def fLand_shortenWays_26 (D : va_G) (cA : FieldType → ClassId) (b : Nat) (E : State → Prop) (o : Nat) (n : Nat) (sh : Nat → qC) (Rf : Nat → Nat → Option Nat) (I : Nat → Nat → Int32) (L : Nat → Nat → Int64) (post : Option Value → qS → Prop) (x1 : Int32) (x2 : Int32) (x3 : Int32) (x4 : Int32) : Prop :=
  ((16 ≤ x4 → fLand_shortenWays_70 D cA b E o n sh Rf I L post x1 x2 x3 x4) ∧ (¬ 16 ≤ x4 → ((x3 = (-1) → fLand_shortenWays_70 D cA b E o n sh Rf I L post x1 x2 x3 x4) ∧ (¬ x3 = (-1) → Ev (qGG D cA b E) mLand_daysBetween 0 (0, 0) 0 (lv_args 0 [.ref o, .int x1, .int x4]) [] (n, sh, Rf, I, L) (fun v τ => ∃ (r4 : Int32) (I5 : Nat → Nat → Int32) (L6 : Nat → Nat → Int64), v = some (.int r4) ∧ τ = (n, sh, Rf, I5, L6) ∧ ((r4 = (-1) → fLand_shortenWays_64 D cA b E o n sh Rf I5 L6 post x1 x2 x3 x4 r4) ∧ (¬ r4 = (-1) → Ev (qGG D cA b E) mLand_shorten 1 (0, 0) 0 (lv_args 0 [.ref o, .int x2, .int x4, .int ((x3 + r4))]) [] (n, sh, Rf, I5, L6) (fun v τ => ∃ (I10 : Nat → Nat → Int32) (L11 : Nat → Nat → Int64), v = none ∧ τ = (n, sh, Rf, I10, L11) ∧ fLand_shortenWays_64 D cA b E o n sh Rf I10 L11 post x1 x2 x3 x4 r4))))))))
set_option maxHeartbeats 4000000 in
set_option maxRecDepth 20000 in
theorem sLand_shortenWays_26 {D : va_G} {cA : FieldType → ClassId} {b : Nat} {E : State → Prop} (o : Nat) (n : Nat) (sh : Nat → qC) (Rf : Nat → Nat → Option Nat) (I : Nat → Nat → Int32) (L : Nat → Nat → Int64) (post : Option Value → qS → Prop) (x1 : Int32) (x2 : Int32) (x3 : Int32) (x4 : Int32) (hok : q_ok (qGG D cA b E)) (hw : WfLand (qGG D cA b E) n sh Rf o) (H : fLand_shortenWays_26 D cA b E o n sh Rf I L post x1 x2 x3 x4) : Ev (qGG D cA b E) mLand_shortenWays 2 (0, 0) 26 [(0, .ref o), (1, .int x1), (2, .int x2), (3, .int x3), (4, .int x4)] [] (n, sh, Rf, I, L) post := by
  unfold fLand_shortenWays_26 at H
  refine ev_iload dLand_shortenWays_26 rfl ?_
  refine ev_bipush (16) dLand_shortenWays_28 (by decide) ?_
  refine ev_icmp_ge 70 dLand_shortenWays_30 (by decide) (fun c1 => ?_) (fun c1 => ?_)
  · have H := H.1 c1
    exact ev_sub [(0, .ref o), (1, .int x1), (2, .int x2), (3, .int x3), (4, .int x4)] rfl (sLand_shortenWays_70 o n sh Rf I L post x1 x2 x3 x4 hok hw H)
  · have H := H.2 c1
    refine ev_iload_n dLand_shortenWays_33 rfl ?_
    refine ev_iconst (-1) dLand_shortenWays_34 (by decide) ?_
    refine ev_icmp_eq 70 dLand_shortenWays_35 (by decide) (fun c2 => ?_) (fun c2 => ?_)
    · have H := H.1 c2
      exact ev_sub [(0, .ref o), (1, .int x1), (2, .int x2), (3, .int x3), (4, .int x4)] rfl (sLand_shortenWays_70 o n sh Rf I L post x1 x2 x3 x4 hok hw H)
    · have H := H.2 c2
      refine ev_aload_n dLand_shortenWays_38 rfl ?_
      refine ev_iload_n dLand_shortenWays_39 rfl ?_
      refine ev_iload dLand_shortenWays_40 rfl ?_
      refine ev_callV [.int x1, .int x4] [] (B' := (0, 0)) (B'' := (0, 0)) hok mmLand_daysBetween mk_Land_179 (ci := 1) rfl rfl (woLand hw) rfl (Nat.le_of_ble_eq_true rfl) rfl (Nat.le_of_ble_eq_true rfl) dLand_shortenWays_42 rfl (by decide) H (fun v τ p3 => ?_)
      obtain ⟨r4, I5, L6, rfl, rfl, H⟩ := p3
      refine ev_istore dLand_shortenWays_45 (by decide) ?_
      refine ev_iload dLand_shortenWays_47 rfl ?_
      refine ev_iconst (-1) dLand_shortenWays_49 (by decide) ?_
      refine ev_icmp_eq 64 dLand_shortenWays_50 (by decide) (fun c7 => ?_) (fun c7 => ?_)
      · have H := H.1 c7
        exact ev_sub [(0, .ref o), (1, .int x1), (2, .int x2), (3, .int x3), (4, .int x4), (5, .int r4)] rfl (sLand_shortenWays_64 o n sh Rf I5 L6 post x1 x2 x3 x4 r4 hok hw H)
      · have H := H.2 c7
        refine ev_aload_n dLand_shortenWays_53 rfl ?_
        refine ev_iload_n dLand_shortenWays_54 rfl ?_
        refine ev_iload dLand_shortenWays_55 rfl ?_
        refine ev_iload_n dLand_shortenWays_57 rfl ?_
        refine ev_iload dLand_shortenWays_58 rfl ?_
        refine ev_iadd dLand_shortenWays_60 ?_
        refine ev_callV [.int x2, .int x4, .int ((x3 + r4))] [] (B' := (0, 0)) (B'' := (0, 0)) hok mmLand_shorten mk_Land_134 (ci := 1) rfl rfl (woLand hw) rfl (Nat.le_of_ble_eq_true rfl) rfl (Nat.le_of_ble_eq_true rfl) dLand_shortenWays_61 rfl (by decide) H (fun v τ p8 => ?_)
        obtain ⟨I10, L11, rfl, rfl, H⟩ := p8
        exact ev_sub [(0, .ref o), (1, .int x1), (2, .int x2), (3, .int x3), (4, .int x4), (5, .int r4)] rfl (sLand_shortenWays_64 o n sh Rf I10 L11 post x1 x2 x3 x4 r4 hok hw H)
def fLand_shortenWays_10 (D : va_G) (cA : FieldType → ClassId) (b : Nat) (E : State → Prop) (o : Nat) (n : Nat) (sh : Nat → qC) (Rf : Nat → Nat → Option Nat) (I : Nat → Nat → Int32) (L : Nat → Nat → Int64) (post : Option Value → qS → Prop) (x1 : Int32) (x2 : Int32) : Prop :=
  ((16 ≤ x2 → Ev (qGG D cA b E) mLand_shortenWays 2 (0, 0) 2 [(0, .ref o), (1, .int ((x1 + Int32.ofInt 1)))] [] (n, sh, Rf, I, L) post) ∧ (¬ 16 ≤ x2 → Ev (qGG D cA b E) mLand_daysBetween 0 (0, 0) 0 (lv_args 0 [.ref o, .int x2, .int x1]) [] (n, sh, Rf, I, L) (fun v τ => ∃ (r3 : Int32) (I4 : Nat → Nat → Int32) (L5 : Nat → Nat → Int64), v = some (.int r3) ∧ τ = (n, sh, Rf, I4, L5) ∧ Ev (qGG D cA b E) mLand_shortenWays 2 (0, 0) 26 [(0, .ref o), (1, .int x1), (2, .int x2), (3, .int r3), (4, .int 0)] [] (n, sh, Rf, I4, L5) post)))
set_option maxHeartbeats 4000000 in
set_option maxRecDepth 20000 in
theorem sLand_shortenWays_10 {D : va_G} {cA : FieldType → ClassId} {b : Nat} {E : State → Prop} (o : Nat) (n : Nat) (sh : Nat → qC) (Rf : Nat → Nat → Option Nat) (I : Nat → Nat → Int32) (L : Nat → Nat → Int64) (post : Option Value → qS → Prop) (x1 : Int32) (x2 : Int32) (hok : q_ok (qGG D cA b E)) (hw : WfLand (qGG D cA b E) n sh Rf o) (H : fLand_shortenWays_10 D cA b E o n sh Rf I L post x1 x2) : Ev (qGG D cA b E) mLand_shortenWays 2 (0, 0) 10 [(0, .ref o), (1, .int x1), (2, .int x2)] [] (n, sh, Rf, I, L) post := by
  unfold fLand_shortenWays_10 at H
  refine ev_iload_n dLand_shortenWays_10 rfl ?_
  refine ev_bipush (16) dLand_shortenWays_11 (by decide) ?_
  refine ev_icmp_ge 76 dLand_shortenWays_13 (by decide) (fun c1 => ?_) (fun c1 => ?_)
  · have H := H.1 c1
    refine ev_iinc dLand_shortenWays_76 rfl (by decide) ?_
    refine ev_goto 2 dLand_shortenWays_79 (by decide) ?_
    exact ev_sub [(0, .ref o), (1, .int ((x1 + Int32.ofInt 1)))] rfl H
  · have H := H.2 c1
    refine ev_aload_n dLand_shortenWays_16 rfl ?_
    refine ev_iload_n dLand_shortenWays_17 rfl ?_
    refine ev_iload_n dLand_shortenWays_18 rfl ?_
    refine ev_callV [.int x2, .int x1] [] (B' := (0, 0)) (B'' := (0, 0)) hok mmLand_daysBetween mk_Land_179 (ci := 1) rfl rfl (woLand hw) rfl (Nat.le_of_ble_eq_true rfl) rfl (Nat.le_of_ble_eq_true rfl) dLand_shortenWays_19 rfl (by decide) H (fun v τ p2 => ?_)
    obtain ⟨r3, I4, L5, rfl, rfl, H⟩ := p2
    refine ev_istore_n dLand_shortenWays_22 (by decide) ?_
    refine ev_iconst (0) dLand_shortenWays_23 (by decide) ?_
    refine ev_istore dLand_shortenWays_24 (by decide) ?_
    exact ev_sub [(0, .ref o), (1, .int x1), (2, .int x2), (3, .int r3), (4, .int 0)] rfl H
def fLand_shortenWays_2 (D : va_G) (cA : FieldType → ClassId) (b : Nat) (E : State → Prop) (o : Nat) (n : Nat) (sh : Nat → qC) (Rf : Nat → Nat → Option Nat) (I : Nat → Nat → Int32) (L : Nat → Nat → Int64) (post : Option Value → qS → Prop) (x1 : Int32) : Prop :=
  ((16 ≤ x1 → post none (n, sh, Rf, I, L)) ∧ (¬ 16 ≤ x1 → Ev (qGG D cA b E) mLand_shortenWays 2 (0, 0) 10 [(0, .ref o), (1, .int x1), (2, .int 0)] [] (n, sh, Rf, I, L) post))
set_option maxHeartbeats 4000000 in
set_option maxRecDepth 20000 in
theorem sLand_shortenWays_2 {D : va_G} {cA : FieldType → ClassId} {b : Nat} {E : State → Prop} (o : Nat) (n : Nat) (sh : Nat → qC) (Rf : Nat → Nat → Option Nat) (I : Nat → Nat → Int32) (L : Nat → Nat → Int64) (post : Option Value → qS → Prop) (x1 : Int32) (hok : q_ok (qGG D cA b E)) (hw : WfLand (qGG D cA b E) n sh Rf o) (H : fLand_shortenWays_2 D cA b E o n sh Rf I L post x1) : Ev (qGG D cA b E) mLand_shortenWays 2 (0, 0) 2 [(0, .ref o), (1, .int x1)] [] (n, sh, Rf, I, L) post := by
  unfold fLand_shortenWays_2 at H
  refine ev_iload_n dLand_shortenWays_2 rfl ?_
  refine ev_bipush (16) dLand_shortenWays_3 (by decide) ?_
  refine ev_icmp_ge 82 dLand_shortenWays_5 (by decide) (fun c1 => ?_) (fun c1 => ?_)
  · have H := H.1 c1
    exact ev_vret rfl dLand_shortenWays_82 H
  · have H := H.2 c1
    refine ev_iconst (0) dLand_shortenWays_8 (by decide) ?_
    refine ev_istore_n dLand_shortenWays_9 (by decide) ?_
    exact ev_sub [(0, .ref o), (1, .int x1), (2, .int 0)] rfl H
def fLand_shortenWays_0 (D : va_G) (cA : FieldType → ClassId) (b : Nat) (E : State → Prop) (o : Nat) (n : Nat) (sh : Nat → qC) (Rf : Nat → Nat → Option Nat) (I : Nat → Nat → Int32) (L : Nat → Nat → Int64) (post : Option Value → qS → Prop)  : Prop :=
  Ev (qGG D cA b E) mLand_shortenWays 2 (0, 0) 2 [(0, .ref o), (1, .int 0)] [] (n, sh, Rf, I, L) post
set_option maxHeartbeats 4000000 in
set_option maxRecDepth 20000 in
theorem sLand_shortenWays_0 {D : va_G} {cA : FieldType → ClassId} {b : Nat} {E : State → Prop} (o : Nat) (n : Nat) (sh : Nat → qC) (Rf : Nat → Nat → Option Nat) (I : Nat → Nat → Int32) (L : Nat → Nat → Int64) (post : Option Value → qS → Prop)  (hok : q_ok (qGG D cA b E)) (hw : WfLand (qGG D cA b E) n sh Rf o) (H : fLand_shortenWays_0 D cA b E o n sh Rf I L post ) : Ev (qGG D cA b E) mLand_shortenWays 2 (0, 0) 0 [(0, .ref o)] [] (n, sh, Rf, I, L) post := by
  unfold fLand_shortenWays_0 at H
  refine ev_iconst (0) dLand_shortenWays_0 (by decide) ?_
  refine ev_istore_n dLand_shortenWays_1 (by decide) ?_
  exact ev_sub [(0, .ref o), (1, .int 0)] rfl H
def fLoads_sendGrain_0 (D : va_G) (cA : FieldType → ClassId) (b : Nat) (E : State → Prop) (o : Nat) (n : Nat) (sh : Nat → qC) (Rf : Nat → Nat → Option Nat) (I : Nat → Nat → Int32) (L : Nat → Nat → Int64) (post : Option Value → qS → Prop) (x1 : Int32) (x2 : Nat) (x3 : Int32) (x4 : Int32) : Prop :=
  ((2880 ≤ (I o 9) → post none (n, sh, Rf, I, L)) ∧ (¬ 2880 ≤ (I o 9) → vp_in (I o 9) 2880 ∧ ∀ I2 : Nat → Nat → Int32, q_u I (o + 6) ((I o 9) : Int32).toNatClampNeg (I x2 4) = I2 → vp_in (I2 o 9) 2880 ∧ ∀ I4 : Nat → Nat → Int32, q_u I2 (o + 7) ((I2 o 9) : Int32).toNatClampNeg (I2 x2 6) = I4 → Ev (qGG D cA b E) mLoads_send 1 (0, 0) 0 (lv_args 0 [.ref o, .int 0, .int x1, .int ((I4 x2 1)), .int (((I4 x2 3) * 10)), .int x3, .int x4]) [] (n, sh, Rf, I4, L) (fun v τ => ∃ (I8 : Nat → Nat → Int32) (L9 : Nat → Nat → Int64), v = none ∧ τ = (n, sh, Rf, I8, L9) ∧ post none (n, sh, Rf, I8, L9))))
set_option maxHeartbeats 4000000 in
set_option maxRecDepth 20000 in
theorem sLoads_sendGrain_0 {D : va_G} {cA : FieldType → ClassId} {b : Nat} {E : State → Prop} (o : Nat) (n : Nat) (sh : Nat → qC) (Rf : Nat → Nat → Option Nat) (I : Nat → Nat → Int32) (L : Nat → Nat → Int64) (post : Option Value → qS → Prop) (x1 : Int32) (x2 : Nat) (x3 : Int32) (x4 : Int32) (hok : q_ok (qGG D cA b E)) (hw : WfLoads (qGG D cA b E) n sh Rf o) (hw2 : WfWay (qGG D cA b E) n sh Rf x2) (H : fLoads_sendGrain_0 D cA b E o n sh Rf I L post x1 x2 x3 x4) : Ev (qGG D cA b E) mLoads_sendGrain 2 (0, 0) 0 [(0, .ref o), (1, .int x1), (2, .ref x2), (3, .int x3), (4, .int x4)] [] (n, sh, Rf, I, L) post := by
  unfold fLoads_sendGrain_0 at H
  refine ev_aload_n dLoads_sendGrain_0 rfl ?_
  refine ev_getI hok fk_Loads_40 (woLoads hw) (fun _ _ _ => rfl) dLoads_sendGrain_1 ?_
  refine ev_sipush (2880) dLoads_sendGrain_4 (by decide) ?_
  refine ev_icmp_ge 56 dLoads_sendGrain_7 (by decide) (fun c1 => ?_) (fun c1 => ?_)
  · have H := H.1 c1
    exact ev_vret rfl dLoads_sendGrain_56 H
  · have H := H.2 c1
    refine ev_aload_n dLoads_sendGrain_10 rfl ?_
    refine ev_getR hok fk_Loads_27 (woLoads hw) (fun _ _ _ => rfl) (wrLoads_5 hw) dLoads_sendGrain_11 ?_
    refine ev_aload_n dLoads_sendGrain_14 rfl ?_
    refine ev_getI hok fk_Loads_40 (woLoads hw) (fun _ _ _ => rfl) dLoads_sendGrain_15 ?_
    refine ev_aload_n dLoads_sendGrain_18 rfl ?_
    refine ev_getI hok fk_Loads_47 (woWay hw2) (fun _ _ _ => rfl) dLoads_sendGrain_19 ?_
    obtain ⟨h3, H⟩ := H
    refine ev_iast hok (waLoads_5 hw) h3 dLoads_sendGrain_22 ?_
    generalize eI2 : q_u I (o + 6) ((I o 9) : Int32).toNatClampNeg (I x2 4) = I2
    have H := H I2 eI2
    refine ev_aload_n dLoads_sendGrain_23 rfl ?_
    refine ev_getR hok fk_Loads_30 (woLoads hw) (fun _ _ _ => rfl) (wrLoads_6 hw) dLoads_sendGrain_24 ?_
    refine ev_aload_n dLoads_sendGrain_27 rfl ?_
    refine ev_getI hok fk_Loads_40 (woLoads hw) (fun _ _ _ => rfl) dLoads_sendGrain_28 ?_
    refine ev_aload_n dLoads_sendGrain_31 rfl ?_
    refine ev_getI hok fk_Loads_52 (woWay hw2) (fun _ _ _ => rfl) dLoads_sendGrain_32 ?_
    obtain ⟨h5, H⟩ := H
    refine ev_iast hok (waLoads_6 hw) h5 dLoads_sendGrain_35 ?_
    generalize eI4 : q_u I2 (o + 7) ((I2 o 9) : Int32).toNatClampNeg (I2 x2 6) = I4
    have H := H I4 eI4
    refine ev_aload_n dLoads_sendGrain_36 rfl ?_
    refine ev_iconst (0) dLoads_sendGrain_37 (by decide) ?_
    refine ev_iload_n dLoads_sendGrain_38 rfl ?_
    refine ev_aload_n dLoads_sendGrain_39 rfl ?_
    refine ev_getI hok fk_Loads_55 (woWay hw2) (fun _ _ _ => rfl) dLoads_sendGrain_40 ?_
    refine ev_aload_n dLoads_sendGrain_43 rfl ?_
    refine ev_getI hok fk_Loads_58 (woWay hw2) (fun _ _ _ => rfl) dLoads_sendGrain_44 ?_
    refine ev_bipush (10) dLoads_sendGrain_47 (by decide) ?_
    refine ev_imul dLoads_sendGrain_49 ?_
    refine ev_iload_n dLoads_sendGrain_50 rfl ?_
    refine ev_iload dLoads_sendGrain_51 rfl ?_
    refine ev_callV [.int 0, .int x1, .int ((I4 x2 1)), .int (((I4 x2 3) * 10)), .int x3, .int x4] [] (B' := (0, 0)) (B'' := (0, 0)) hok mmLoads_send mk_Loads_43 (ci := 2) rfl rfl (woLoads hw) rfl (Nat.le_of_ble_eq_true rfl) rfl (Nat.le_of_ble_eq_true rfl) dLoads_sendGrain_53 rfl (by decide) H (fun v τ p6 => ?_)
    obtain ⟨I8, L9, rfl, rfl, H⟩ := p6
    exact ev_vret rfl dLoads_sendGrain_56 H
def fLoads_sendSalt_0 (D : va_G) (cA : FieldType → ClassId) (b : Nat) (E : State → Prop) (o : Nat) (n : Nat) (sh : Nat → qC) (Rf : Nat → Nat → Option Nat) (I : Nat → Nat → Int32) (L : Nat → Nat → Int64) (post : Option Value → qS → Prop) (x1 : Int32) (x2 : Int32) (x3 : Int32) (x4 : Int32) (x5 : Int32) : Prop :=
  ((2880 ≤ (I o 9) → post none (n, sh, Rf, I, L)) ∧ (¬ 2880 ≤ (I o 9) → vp_in (I o 9) 2880 ∧ ∀ I2 : Nat → Nat → Int32, q_u I (o + 6) ((I o 9) : Int32).toNatClampNeg 0 = I2 → vp_in (I2 o 9) 2880 ∧ ∀ I4 : Nat → Nat → Int32, q_u I2 (o + 7) ((I2 o 9) : Int32).toNatClampNeg (-1) = I4 → Ev (qGG D cA b E) mLoads_send 1 (0, 0) 0 (lv_args 0 [.ref o, .int 1, .int x1, .int x2, .int x3, .int x4, .int x5]) [] (n, sh, Rf, I4, L) (fun v τ => ∃ (I8 : Nat → Nat → Int32) (L9 : Nat → Nat → Int64), v = none ∧ τ = (n, sh, Rf, I8, L9) ∧ post none (n, sh, Rf, I8, L9))))
set_option maxHeartbeats 4000000 in
set_option maxRecDepth 20000 in
theorem sLoads_sendSalt_0 {D : va_G} {cA : FieldType → ClassId} {b : Nat} {E : State → Prop} (o : Nat) (n : Nat) (sh : Nat → qC) (Rf : Nat → Nat → Option Nat) (I : Nat → Nat → Int32) (L : Nat → Nat → Int64) (post : Option Value → qS → Prop) (x1 : Int32) (x2 : Int32) (x3 : Int32) (x4 : Int32) (x5 : Int32) (hok : q_ok (qGG D cA b E)) (hw : WfLoads (qGG D cA b E) n sh Rf o) (H : fLoads_sendSalt_0 D cA b E o n sh Rf I L post x1 x2 x3 x4 x5) : Ev (qGG D cA b E) mLoads_sendSalt 2 (0, 0) 0 [(0, .ref o), (1, .int x1), (2, .int x2), (3, .int x3), (4, .int x4), (5, .int x5)] [] (n, sh, Rf, I, L) post := by
  unfold fLoads_sendSalt_0 at H
  refine ev_aload_n dLoads_sendSalt_0 rfl ?_
  refine ev_getI hok fk_Loads_40 (woLoads hw) (fun _ _ _ => rfl) dLoads_sendSalt_1 ?_
  refine ev_sipush (2880) dLoads_sendSalt_4 (by decide) ?_
  refine ev_icmp_ge 42 dLoads_sendSalt_7 (by decide) (fun c1 => ?_) (fun c1 => ?_)
  · have H := H.1 c1
    exact ev_vret rfl dLoads_sendSalt_42 H
  · have H := H.2 c1
    refine ev_aload_n dLoads_sendSalt_10 rfl ?_
    refine ev_getR hok fk_Loads_27 (woLoads hw) (fun _ _ _ => rfl) (wrLoads_5 hw) dLoads_sendSalt_11 ?_
    refine ev_aload_n dLoads_sendSalt_14 rfl ?_
    refine ev_getI hok fk_Loads_40 (woLoads hw) (fun _ _ _ => rfl) dLoads_sendSalt_15 ?_
    refine ev_iconst (0) dLoads_sendSalt_18 (by decide) ?_
    obtain ⟨h3, H⟩ := H
    refine ev_iast hok (waLoads_5 hw) h3 dLoads_sendSalt_19 ?_
    generalize eI2 : q_u I (o + 6) ((I o 9) : Int32).toNatClampNeg 0 = I2
    have H := H I2 eI2
    refine ev_aload_n dLoads_sendSalt_20 rfl ?_
    refine ev_getR hok fk_Loads_30 (woLoads hw) (fun _ _ _ => rfl) (wrLoads_6 hw) dLoads_sendSalt_21 ?_
    refine ev_aload_n dLoads_sendSalt_24 rfl ?_
    refine ev_getI hok fk_Loads_40 (woLoads hw) (fun _ _ _ => rfl) dLoads_sendSalt_25 ?_
    refine ev_iconst (-1) dLoads_sendSalt_28 (by decide) ?_
    obtain ⟨h5, H⟩ := H
    refine ev_iast hok (waLoads_6 hw) h5 dLoads_sendSalt_29 ?_
    generalize eI4 : q_u I2 (o + 7) ((I2 o 9) : Int32).toNatClampNeg (-1) = I4
    have H := H I4 eI4
    refine ev_aload_n dLoads_sendSalt_30 rfl ?_
    refine ev_iconst (1) dLoads_sendSalt_31 (by decide) ?_
    refine ev_iload_n dLoads_sendSalt_32 rfl ?_
    refine ev_iload_n dLoads_sendSalt_33 rfl ?_
    refine ev_iload_n dLoads_sendSalt_34 rfl ?_
    refine ev_iload dLoads_sendSalt_35 rfl ?_
    refine ev_iload dLoads_sendSalt_37 rfl ?_
    refine ev_callV [.int 1, .int x1, .int x2, .int x3, .int x4, .int x5] [] (B' := (0, 0)) (B'' := (0, 0)) hok mmLoads_send mk_Loads_43 (ci := 2) rfl rfl (woLoads hw) rfl (Nat.le_of_ble_eq_true rfl) rfl (Nat.le_of_ble_eq_true rfl) dLoads_sendSalt_39 rfl (by decide) H (fun v τ p6 => ?_)
    obtain ⟨I8, L9, rfl, rfl, H⟩ := p6
    exact ev_vret rfl dLoads_sendSalt_42 H
def fOffice_dead_44 (D : va_G) (cA : FieldType → ClassId) (b : Nat) (E : State → Prop) (o : Nat) (n : Nat) (sh : Nat → qC) (Rf : Nat → Nat → Option Nat) (I : Nat → Nat → Int32) (L : Nat → Nat → Int64) (post : Option Value → qS → Prop) (x1 : Int32) (x2 : Int32) (x3 : Int32) : Prop :=
  Ev (qGG D cA b E) mOffice_tellFact 1 (0, 0) 0 (lv_args 0 [.ref o, .int 2, .int x1, .int x2, .int x3]) [] (n, sh, Rf, I, L) (fun v τ => ∃ (r2 : Int32) (I3 : Nat → Nat → Int32) (L4 : Nat → Nat → Int64), v = some (.int r2) ∧ τ = (n, sh, Rf, I3, L4) ∧ post (some (.int r2)) (n, sh, Rf, I3, L4))
set_option maxHeartbeats 4000000 in
set_option maxRecDepth 20000 in
theorem sOffice_dead_44 {D : va_G} {cA : FieldType → ClassId} {b : Nat} {E : State → Prop} (o : Nat) (n : Nat) (sh : Nat → qC) (Rf : Nat → Nat → Option Nat) (I : Nat → Nat → Int32) (L : Nat → Nat → Int64) (post : Option Value → qS → Prop) (x1 : Int32) (x2 : Int32) (x3 : Int32) (hok : q_ok (qGG D cA b E)) (hw : WfOffice (qGG D cA b E) n sh Rf o) (H : fOffice_dead_44 D cA b E o n sh Rf I L post x1 x2 x3) : Ev (qGG D cA b E) mOffice_dead 2 (0, 0) 44 [(0, .ref o), (1, .int x1), (2, .int x2), (3, .int x3)] [] (n, sh, Rf, I, L) post := by
  unfold fOffice_dead_44 at H
  refine ev_aload_n dOffice_dead_44 rfl ?_
  refine ev_iconst (2) dOffice_dead_45 (by decide) ?_
  refine ev_iload_n dOffice_dead_46 rfl ?_
  refine ev_iload_n dOffice_dead_47 rfl ?_
  refine ev_iload_n dOffice_dead_48 rfl ?_
  refine ev_callV [.int 2, .int x1, .int x2, .int x3] [] (B' := (0, 0)) (B'' := (0, 0)) hok mmOffice_tellFact mk_Office_135 (ci := 11) rfl rfl (woOffice hw) rfl (Nat.le_of_ble_eq_true rfl) rfl (Nat.le_of_ble_eq_true rfl) dOffice_dead_49 rfl (by decide) H (fun v τ p1 => ?_)
  obtain ⟨r2, I3, L4, rfl, rfl, H⟩ := p1
  exact ev_iret rfl dOffice_dead_52 H
def fOffice_dead_0 (D : va_G) (cA : FieldType → ClassId) (b : Nat) (E : State → Prop) (o : Nat) (n : Nat) (sh : Nat → qC) (Rf : Nat → Nat → Option Nat) (I : Nat → Nat → Int32) (L : Nat → Nat → Int64) (post : Option Value → qS → Prop) (x1 : Int32) (x2 : Int32) (x3 : Int32) : Prop :=
  ((x1 < 0 → post (some (.int ((-1)))) (n, sh, Rf, I, L)) ∧ (¬ x1 < 0 → (((I (o + 46) 1) ≤ x1 → post (some (.int ((-1)))) (n, sh, Rf, I, L)) ∧ (¬ (I (o + 46) 1) ≤ x1 → ((¬ x1 = x3 → ((x3 = (-1) → fOffice_dead_44 D cA b E o n sh Rf I L post x1 x2 x3) ∧ (¬ x3 = (-1) → ((x3 < 0 → post (some (.int ((-1)))) (n, sh, Rf, I, L)) ∧ (¬ x3 < 0 → ((x3 < (I (o + 46) 1) → fOffice_dead_44 D cA b E o n sh Rf I L post x1 x2 x3) ∧ (¬ x3 < (I (o + 46) 1) → post (some (.int ((-1)))) (n, sh, Rf, I, L)))))))) ∧ (x1 = x3 → post (some (.int ((-1)))) (n, sh, Rf, I, L)))))))
set_option maxHeartbeats 4000000 in
set_option maxRecDepth 20000 in
theorem sOffice_dead_0 {D : va_G} {cA : FieldType → ClassId} {b : Nat} {E : State → Prop} (o : Nat) (n : Nat) (sh : Nat → qC) (Rf : Nat → Nat → Option Nat) (I : Nat → Nat → Int32) (L : Nat → Nat → Int64) (post : Option Value → qS → Prop) (x1 : Int32) (x2 : Int32) (x3 : Int32) (hok : q_ok (qGG D cA b E)) (hw : WfOffice (qGG D cA b E) n sh Rf o) (H : fOffice_dead_0 D cA b E o n sh Rf I L post x1 x2 x3) : Ev (qGG D cA b E) mOffice_dead 2 (0, 0) 0 [(0, .ref o), (1, .int x1), (2, .int x2), (3, .int x3)] [] (n, sh, Rf, I, L) post := by
  unfold fOffice_dead_0 at H
  refine ev_iload_n dOffice_dead_0 rfl ?_
  refine ev_if_lt 20 dOffice_dead_1 (by decide) (fun c1 => ?_) (fun c1 => ?_)
  · have H := H.1 c1
    refine ev_iconst (-1) dOffice_dead_20 (by decide) ?_
    exact ev_iret rfl dOffice_dead_21 H
  · have H := H.2 c1
    refine ev_iload_n dOffice_dead_4 rfl ?_
    refine ev_aload_n dOffice_dead_5 rfl ?_
    refine ev_getR hok fk_Office_40 (woOffice hw) (fun _ _ _ => rfl) (wrOffice_5 hw) dOffice_dead_6 ?_
    refine ev_getI hok fk_Office_109 (woTrade (wsOffice_5 hw)) (fun _ _ _ => rfl) dOffice_dead_9 ?_
    refine ev_icmp_ge 20 dOffice_dead_12 (by decide) (fun c2 => ?_) (fun c2 => ?_)
    · have H := H.1 c2
      refine ev_iconst (-1) dOffice_dead_20 (by decide) ?_
      exact ev_iret rfl dOffice_dead_21 H
    · have H := H.2 c2
      refine ev_iload_n dOffice_dead_15 rfl ?_
      refine ev_iload_n dOffice_dead_16 rfl ?_
      refine ev_icmp_ne 22 dOffice_dead_17 (by decide) (fun c3 => ?_) (fun c3 => ?_)
      · have H := H.1 c3
        refine ev_iload_n dOffice_dead_22 rfl ?_
        refine ev_iconst (-1) dOffice_dead_23 (by decide) ?_
        refine ev_icmp_eq 44 dOffice_dead_24 (by decide) (fun c4 => ?_) (fun c4 => ?_)
        · have H := H.1 c4
          exact ev_sub [(0, .ref o), (1, .int x1), (2, .int x2), (3, .int x3)] rfl (sOffice_dead_44 o n sh Rf I L post x1 x2 x3 hok hw H)
        · have H := H.2 c4
          refine ev_iload_n dOffice_dead_27 rfl ?_
          refine ev_if_lt 42 dOffice_dead_28 (by decide) (fun c5 => ?_) (fun c5 => ?_)
          · have H := H.1 c5
            refine ev_iconst (-1) dOffice_dead_42 (by decide) ?_
            exact ev_iret rfl dOffice_dead_43 H
          · have H := H.2 c5
            refine ev_iload_n dOffice_dead_31 rfl ?_
            refine ev_aload_n dOffice_dead_32 rfl ?_
            refine ev_getR hok fk_Office_40 (woOffice hw) (fun _ _ _ => rfl) (wrOffice_5 hw) dOffice_dead_33 ?_
            refine ev_getI hok fk_Office_109 (woTrade (wsOffice_5 hw)) (fun _ _ _ => rfl) dOffice_dead_36 ?_
            refine ev_icmp_lt 44 dOffice_dead_39 (by decide) (fun c6 => ?_) (fun c6 => ?_)
            · have H := H.1 c6
              exact ev_sub [(0, .ref o), (1, .int x1), (2, .int x2), (3, .int x3)] rfl (sOffice_dead_44 o n sh Rf I L post x1 x2 x3 hok hw H)
            · have H := H.2 c6
              refine ev_iconst (-1) dOffice_dead_42 (by decide) ?_
              exact ev_iret rfl dOffice_dead_43 H
      · have H := H.2 c3
        refine ev_iconst (-1) dOffice_dead_20 (by decide) ?_
        exact ev_iret rfl dOffice_dead_21 H
def fOffice_forged_0 (D : va_G) (cA : FieldType → ClassId) (b : Nat) (E : State → Prop) (o : Nat) (n : Nat) (sh : Nat → qC) (Rf : Nat → Nat → Option Nat) (I : Nat → Nat → Int32) (L : Nat → Nat → Int64) (post : Option Value → qS → Prop) (x1 : Int32) (x2 : Int32) : Prop :=
  ((x1 < 0 → post (some (.int ((-1)))) (n, sh, Rf, I, L)) ∧ (¬ x1 < 0 → ((x1 < 2000 → Ev (qGG D cA b E) mOffice_tellFact 1 (0, 0) 0 (lv_args 0 [.ref o, .int 1, .int x1, .int x2, .int 0]) [] (n, sh, Rf, I, L) (fun v τ => ∃ (r4 : Int32) (I5 : Nat → Nat → Int32) (L6 : Nat → Nat → Int64), v = some (.int r4) ∧ τ = (n, sh, Rf, I5, L6) ∧ post (some (.int r4)) (n, sh, Rf, I5, L6))) ∧ (¬ x1 < 2000 → post (some (.int ((-1)))) (n, sh, Rf, I, L)))))
set_option maxHeartbeats 4000000 in
set_option maxRecDepth 20000 in
theorem sOffice_forged_0 {D : va_G} {cA : FieldType → ClassId} {b : Nat} {E : State → Prop} (o : Nat) (n : Nat) (sh : Nat → qC) (Rf : Nat → Nat → Option Nat) (I : Nat → Nat → Int32) (L : Nat → Nat → Int64) (post : Option Value → qS → Prop) (x1 : Int32) (x2 : Int32) (hok : q_ok (qGG D cA b E)) (hw : WfOffice (qGG D cA b E) n sh Rf o) (H : fOffice_forged_0 D cA b E o n sh Rf I L post x1 x2) : Ev (qGG D cA b E) mOffice_forged 2 (0, 0) 0 [(0, .ref o), (1, .int x1), (2, .int x2)] [] (n, sh, Rf, I, L) post := by
  unfold fOffice_forged_0 at H
  refine ev_iload_n dOffice_forged_0 rfl ?_
  refine ev_if_lt 11 dOffice_forged_1 (by decide) (fun c1 => ?_) (fun c1 => ?_)
  · have H := H.1 c1
    refine ev_iconst (-1) dOffice_forged_11 (by decide) ?_
    exact ev_iret rfl dOffice_forged_12 H
  · have H := H.2 c1
    refine ev_iload_n dOffice_forged_4 rfl ?_
    refine ev_sipush (2000) dOffice_forged_5 (by decide) ?_
    refine ev_icmp_lt 13 dOffice_forged_8 (by decide) (fun c2 => ?_) (fun c2 => ?_)
    · have H := H.1 c2
      refine ev_aload_n dOffice_forged_13 rfl ?_
      refine ev_iconst (1) dOffice_forged_14 (by decide) ?_
      refine ev_iload_n dOffice_forged_15 rfl ?_
      refine ev_iload_n dOffice_forged_16 rfl ?_
      refine ev_iconst (0) dOffice_forged_17 (by decide) ?_
      refine ev_callV [.int 1, .int x1, .int x2, .int 0] [] (B' := (0, 0)) (B'' := (0, 0)) hok mmOffice_tellFact mk_Office_135 (ci := 11) rfl rfl (woOffice hw) rfl (Nat.le_of_ble_eq_true rfl) rfl (Nat.le_of_ble_eq_true rfl) dOffice_forged_18 rfl (by decide) H (fun v τ p3 => ?_)
      obtain ⟨r4, I5, L6, rfl, rfl, H⟩ := p3
      exact ev_iret rfl dOffice_forged_21 H
    · have H := H.2 c2
      refine ev_iconst (-1) dOffice_forged_11 (by decide) ?_
      exact ev_iret rfl dOffice_forged_12 H
def fOffice_weather_0 (D : va_G) (cA : FieldType → ClassId) (b : Nat) (E : State → Prop) (o : Nat) (n : Nat) (sh : Nat → qC) (Rf : Nat → Nat → Option Nat) (I : Nat → Nat → Int32) (L : Nat → Nat → Int64) (post : Option Value → qS → Prop) (x1 : Int32) (x2 : Int32) (x3 : Int32) (uo_1 : Nat) : Prop :=
  ((x1 < 0 → post (some (.int ((-1)))) (n, sh, Rf, I, L)) ∧ (¬ x1 < 0 → (((I uo_1 2) ≤ x1 → post (some (.int ((-1)))) (n, sh, Rf, I, L)) ∧ (¬ (I uo_1 2) ≤ x1 → Ev (qGG D cA b E) mOffice_within 0 (0, 0) 0 (lv_args 0 [.int x3, .int 0, .int 300]) [] (n, sh, Rf, I, L) (fun v τ => ∃ (r4 : Int32) (I5 : Nat → Nat → Int32) (L6 : Nat → Nat → Int64), v = some (.int r4) ∧ τ = (n, sh, Rf, I5, L6) ∧ ((¬ r4 = 0 → Ev (qGG D cA b E) mOffice_tellFact 1 (0, 0) 0 (lv_args 0 [.ref o, .int 0, .int x1, .int x2, .int x3]) [] (n, sh, Rf, I5, L6) (fun v τ => ∃ (r9 : Int32) (I10 : Nat → Nat → Int32) (L11 : Nat → Nat → Int64), v = some (.int r9) ∧ τ = (n, sh, Rf, I10, L11) ∧ post (some (.int r9)) (n, sh, Rf, I10, L11))) ∧ (r4 = 0 → post (some (.int ((-1)))) (n, sh, Rf, I5, L6))))))))
set_option maxHeartbeats 4000000 in
set_option maxRecDepth 20000 in
theorem sOffice_weather_0 {D : va_G} {cA : FieldType → ClassId} {b : Nat} {E : State → Prop} (o : Nat) (n : Nat) (sh : Nat → qC) (Rf : Nat → Nat → Option Nat) (I : Nat → Nat → Int32) (L : Nat → Nat → Int64) (post : Option Value → qS → Prop) (x1 : Int32) (x2 : Int32) (x3 : Int32) (uo_1 : Nat) (hok : q_ok (qGG D cA b E)) (hw : WfOffice (qGG D cA b E) n sh Rf o) (huo_1 : Rf o 1 = some uo_1) (hwuo_1 : WfLand (qGG D cA b E) n sh Rf uo_1) (H : fOffice_weather_0 D cA b E o n sh Rf I L post x1 x2 x3 uo_1) : Ev (qGG D cA b E) mOffice_weather 2 (0, 0) 0 [(0, .ref o), (1, .int x1), (2, .int x2), (3, .int x3)] [] (n, sh, Rf, I, L) post := by
  unfold fOffice_weather_0 at H
  refine ev_iload_n dOffice_weather_0 rfl ?_
  refine ev_if_lt 26 dOffice_weather_1 (by decide) (fun c1 => ?_) (fun c1 => ?_)
  · have H := H.1 c1
    refine ev_iconst (-1) dOffice_weather_26 (by decide) ?_
    exact ev_iret rfl dOffice_weather_27 H
  · have H := H.2 c1
    refine ev_iload_n dOffice_weather_4 rfl ?_
    refine ev_aload_n dOffice_weather_5 rfl ?_
    refine ev_getR hok fk_Office_19 (woOffice hw) (fun _ _ _ => rfl) huo_1 dOffice_weather_6 ?_
    refine ev_getI hok fk_Office_89 (woLand hwuo_1) (fun _ _ _ => rfl) dOffice_weather_9 ?_
    refine ev_icmp_ge 26 dOffice_weather_12 (by decide) (fun c2 => ?_) (fun c2 => ?_)
    · have H := H.1 c2
      refine ev_iconst (-1) dOffice_weather_26 (by decide) ?_
      exact ev_iret rfl dOffice_weather_27 H
    · have H := H.2 c2
      refine ev_iload_n dOffice_weather_15 rfl ?_
      refine ev_iconst (0) dOffice_weather_16 (by decide) ?_
      refine ev_sipush (300) dOffice_weather_17 (by decide) ?_
      refine ev_callS [.int x3, .int 0, .int 300] [] (B' := (0, 0)) (B'' := (0, 0)) hok mmOffice_within mk_Office_116 rfl (Nat.le_of_ble_eq_true rfl) rfl (Nat.le_of_ble_eq_true rfl) dOffice_weather_20 rfl (by decide) H (fun v τ p3 => ?_)
      obtain ⟨r4, I5, L6, rfl, rfl, H⟩ := p3
      refine ev_if_ne 28 dOffice_weather_23 (by decide) (fun c7 => ?_) (fun c7 => ?_)
      · have H := H.1 c7
        refine ev_aload_n dOffice_weather_28 rfl ?_
        refine ev_iconst (0) dOffice_weather_29 (by decide) ?_
        refine ev_iload_n dOffice_weather_30 rfl ?_
        refine ev_iload_n dOffice_weather_31 rfl ?_
        refine ev_iload_n dOffice_weather_32 rfl ?_
        refine ev_callV [.int 0, .int x1, .int x2, .int x3] [] (B' := (0, 0)) (B'' := (0, 0)) hok mmOffice_tellFact mk_Office_135 (ci := 11) rfl rfl (woOffice hw) rfl (Nat.le_of_ble_eq_true rfl) rfl (Nat.le_of_ble_eq_true rfl) dOffice_weather_33 rfl (by decide) H (fun v τ p8 => ?_)
        obtain ⟨r9, I10, L11, rfl, rfl, H⟩ := p8
        exact ev_iret rfl dOffice_weather_36 H
      · have H := H.2 c7
        refine ev_iconst (-1) dOffice_weather_26 (by decide) ?_
        exact ev_iret rfl dOffice_weather_27 H
def fPapers_leaveTo_57 (D : va_G) (cA : FieldType → ClassId) (b : Nat) (E : State → Prop) (o : Nat) (n : Nat) (sh : Nat → qC) (Rf : Nat → Nat → Option Nat) (I : Nat → Nat → Int32) (L : Nat → Nat → Int64) (post : Option Value → qS → Prop) (x1 : Int32) (x2 : Int32) (x3 : Int32) (x4 : Int32) : Prop :=
  Ev (qGG D cA b E) mPapers_leaveTo 2 (0, 0) 2 [(0, .ref o), (1, .int x1), (2, .int x2), (3, .int ((x3 + Int32.ofInt 1)))] [] (n, sh, Rf, I, L) post
set_option maxHeartbeats 4000000 in
set_option maxRecDepth 20000 in
theorem sPapers_leaveTo_57 {D : va_G} {cA : FieldType → ClassId} {b : Nat} {E : State → Prop} (o : Nat) (n : Nat) (sh : Nat → qC) (Rf : Nat → Nat → Option Nat) (I : Nat → Nat → Int32) (L : Nat → Nat → Int64) (post : Option Value → qS → Prop) (x1 : Int32) (x2 : Int32) (x3 : Int32) (x4 : Int32) (hok : q_ok (qGG D cA b E)) (hw : WfPapers (qGG D cA b E) n sh Rf o) (H : fPapers_leaveTo_57 D cA b E o n sh Rf I L post x1 x2 x3 x4) : Ev (qGG D cA b E) mPapers_leaveTo 2 (0, 0) 57 [(0, .ref o), (1, .int x1), (2, .int x2), (3, .int x3), (4, .int x4)] [] (n, sh, Rf, I, L) post := by
  unfold fPapers_leaveTo_57 at H
  refine ev_iinc dPapers_leaveTo_57 rfl (by decide) ?_
  refine ev_goto 2 dPapers_leaveTo_60 (by decide) ?_
  exact ev_sub [(0, .ref o), (1, .int x1), (2, .int x2), (3, .int ((x3 + Int32.ofInt 1)))] rfl H
def fPapers_leaveTo_2 (D : va_G) (cA : FieldType → ClassId) (b : Nat) (E : State → Prop) (o : Nat) (n : Nat) (sh : Nat → qC) (Rf : Nat → Nat → Option Nat) (I : Nat → Nat → Int32) (L : Nat → Nat → Int64) (post : Option Value → qS → Prop) (x1 : Int32) (x2 : Int32) (x3 : Int32) : Prop :=
  (((I o 13) ≤ x3 → post none (n, sh, Rf, I, L)) ∧ (¬ (I o 13) ≤ x3 → vp_in x3 1440 ∧ vp_in (I (o + 11) (x3 : Int32).toNatClampNeg) 1440 ∧ ((¬ (I (o + 1) ((I (o + 11) (x3 : Int32).toNatClampNeg) : Int32).toNatClampNeg) = x2 → fPapers_leaveTo_57 D cA b E o n sh Rf I L post x1 x2 x3 (I (o + 11) (x3 : Int32).toNatClampNeg)) ∧ ((I (o + 1) ((I (o + 11) (x3 : Int32).toNatClampNeg) : Int32).toNatClampNeg) = x2 → Ev (qGG D cA b E) mPapers_isWaiting 0 (0, 0) 0 (lv_args 0 [.ref o, .int ((I (o + 11) (x3 : Int32).toNatClampNeg))]) [] (n, sh, Rf, I, L) (fun v τ => ∃ (r6 : Int32) (I7 : Nat → Nat → Int32) (L8 : Nat → Nat → Int64), v = some (.int r6) ∧ τ = (n, sh, Rf, I7, L8) ∧ ((r6 = 0 → fPapers_leaveTo_57 D cA b E o n sh Rf I7 L8 post x1 x2 x3 (I (o + 11) (x3 : Int32).toNatClampNeg)) ∧ (¬ r6 = 0 → vp_in (I (o + 11) (x3 : Int32).toNatClampNeg) 1440 ∧ ∀ I10 : Nat → Nat → Int32, q_u I7 (o + 1) ((I (o + 11) (x3 : Int32).toNatClampNeg) : Int32).toNatClampNeg x1 = I10 → ((¬ x1 = (-1) → fPapers_leaveTo_57 D cA b E o n sh Rf I10 L8 post x1 x2 x3 (I (o + 11) (x3 : Int32).toNatClampNeg)) ∧ (x1 = (-1) → Ev (qGG D cA b E) mPapers_lose 1 (0, 0) 0 (lv_args 0 [.ref o, .int ((I (o + 11) (x3 : Int32).toNatClampNeg))]) [] (n, sh, Rf, I10, L8) (fun v τ => ∃ (I15 : Nat → Nat → Int32) (L16 : Nat → Nat → Int64), v = none ∧ τ = (n, sh, Rf, I15, L16) ∧ fPapers_leaveTo_57 D cA b E o n sh Rf I15 L16 post x1 x2 x3 (I (o + 11) (x3 : Int32).toNatClampNeg)))))))))))
set_option maxHeartbeats 4000000 in
set_option maxRecDepth 20000 in
theorem sPapers_leaveTo_2 {D : va_G} {cA : FieldType → ClassId} {b : Nat} {E : State → Prop} (o : Nat) (n : Nat) (sh : Nat → qC) (Rf : Nat → Nat → Option Nat) (I : Nat → Nat → Int32) (L : Nat → Nat → Int64) (post : Option Value → qS → Prop) (x1 : Int32) (x2 : Int32) (x3 : Int32) (hok : q_ok (qGG D cA b E)) (hw : WfPapers (qGG D cA b E) n sh Rf o) (H : fPapers_leaveTo_2 D cA b E o n sh Rf I L post x1 x2 x3) : Ev (qGG D cA b E) mPapers_leaveTo 2 (0, 0) 2 [(0, .ref o), (1, .int x1), (2, .int x2), (3, .int x3)] [] (n, sh, Rf, I, L) post := by
  unfold fPapers_leaveTo_2 at H
  refine ev_iload_n dPapers_leaveTo_2 rfl ?_
  refine ev_aload_n dPapers_leaveTo_3 rfl ?_
  refine ev_getI hok fk_Papers_52 (woPapers hw) (fun _ _ _ => rfl) dPapers_leaveTo_4 ?_
  refine ev_icmp_ge 63 dPapers_leaveTo_7 (by decide) (fun c1 => ?_) (fun c1 => ?_)
  · have H := H.1 c1
    exact ev_vret rfl dPapers_leaveTo_63 H
  · have H := H.2 c1
    refine ev_aload_n dPapers_leaveTo_10 rfl ?_
    refine ev_getR hok fk_Papers_42 (woPapers hw) (fun _ _ _ => rfl) (wrPapers_10 hw) dPapers_leaveTo_11 ?_
    refine ev_iload_n dPapers_leaveTo_14 rfl ?_
    obtain ⟨h2, H⟩ := H
    refine ev_iald hok (waPapers_10 hw) h2 dPapers_leaveTo_15 ?_
    refine ev_istore dPapers_leaveTo_16 (by decide) ?_
    refine ev_aload_n dPapers_leaveTo_18 rfl ?_
    refine ev_getR hok fk_Papers_9 (woPapers hw) (fun _ _ _ => rfl) (wrPapers_0 hw) dPapers_leaveTo_19 ?_
    refine ev_iload dPapers_leaveTo_22 rfl ?_
    obtain ⟨h3, H⟩ := H
    refine ev_iald hok (waPapers_0 hw) h3 dPapers_leaveTo_24 ?_
    refine ev_iload_n dPapers_leaveTo_25 rfl ?_
    refine ev_icmp_ne 57 dPapers_leaveTo_26 (by decide) (fun c4 => ?_) (fun c4 => ?_)
    · have H := H.1 c4
      exact ev_sub [(0, .ref o), (1, .int x1), (2, .int x2), (3, .int x3), (4, .int ((I (o + 11) (x3 : Int32).toNatClampNeg)))] rfl (sPapers_leaveTo_57 o n sh Rf I L post x1 x2 x3 (I (o + 11) (x3 : Int32).toNatClampNeg) hok hw H)
    · have H := H.2 c4
      refine ev_aload_n dPapers_leaveTo_29 rfl ?_
      refine ev_iload dPapers_leaveTo_30 rfl ?_
      refine ev_callV [.int ((I (o + 11) (x3 : Int32).toNatClampNeg))] [] (B' := (0, 0)) (B'' := (0, 0)) hok mmPapers_isWaiting mk_Papers_84 (ci := 3) rfl rfl (woPapers hw) rfl (Nat.le_of_ble_eq_true rfl) rfl (Nat.le_of_ble_eq_true rfl) dPapers_leaveTo_32 rfl (by decide) H (fun v τ p5 => ?_)
      obtain ⟨r6, I7, L8, rfl, rfl, H⟩ := p5
      refine ev_if_eq 57 dPapers_leaveTo_35 (by decide) (fun c9 => ?_) (fun c9 => ?_)
      · have H := H.1 c9
        exact ev_sub [(0, .ref o), (1, .int x1), (2, .int x2), (3, .int x3), (4, .int ((I (o + 11) (x3 : Int32).toNatClampNeg)))] rfl (sPapers_leaveTo_57 o n sh Rf I7 L8 post x1 x2 x3 (I (o + 11) (x3 : Int32).toNatClampNeg) hok hw H)
      · have H := H.2 c9
        refine ev_aload_n dPapers_leaveTo_38 rfl ?_
        refine ev_getR hok fk_Papers_9 (woPapers hw) (fun _ _ _ => rfl) (wrPapers_0 hw) dPapers_leaveTo_39 ?_
        refine ev_iload dPapers_leaveTo_42 rfl ?_
        refine ev_iload_n dPapers_leaveTo_44 rfl ?_
        obtain ⟨h11, H⟩ := H
        refine ev_iast hok (waPapers_0 hw) h11 dPapers_leaveTo_45 ?_
        generalize eI10 : q_u I7 (o + 1) ((I (o + 11) (x3 : Int32).toNatClampNeg) : Int32).toNatClampNeg x1 = I10
        have H := H I10 eI10
        refine ev_iload_n dPapers_leaveTo_46 rfl ?_
        refine ev_iconst (-1) dPapers_leaveTo_47 (by decide) ?_
        refine ev_icmp_ne 57 dPapers_leaveTo_48 (by decide) (fun c12 => ?_) (fun c12 => ?_)
        · have H := H.1 c12
          exact ev_sub [(0, .ref o), (1, .int x1), (2, .int x2), (3, .int x3), (4, .int ((I (o + 11) (x3 : Int32).toNatClampNeg)))] rfl (sPapers_leaveTo_57 o n sh Rf I10 L8 post x1 x2 x3 (I (o + 11) (x3 : Int32).toNatClampNeg) hok hw H)
        · have H := H.2 c12
          refine ev_aload_n dPapers_leaveTo_51 rfl ?_
          refine ev_iload dPapers_leaveTo_52 rfl ?_
          refine ev_callV [.int ((I (o + 11) (x3 : Int32).toNatClampNeg))] [] (B' := (0, 0)) (B'' := (0, 0)) hok mmPapers_lose mk_Papers_92 (ci := 3) rfl rfl (woPapers hw) rfl (Nat.le_of_ble_eq_true rfl) rfl (Nat.le_of_ble_eq_true rfl) dPapers_leaveTo_54 rfl (by decide) H (fun v τ p13 => ?_)
          obtain ⟨I15, L16, rfl, rfl, H⟩ := p13
          exact ev_sub [(0, .ref o), (1, .int x1), (2, .int x2), (3, .int x3), (4, .int ((I (o + 11) (x3 : Int32).toNatClampNeg)))] rfl (sPapers_leaveTo_57 o n sh Rf I15 L16 post x1 x2 x3 (I (o + 11) (x3 : Int32).toNatClampNeg) hok hw H)
def fPapers_leaveTo_0 (D : va_G) (cA : FieldType → ClassId) (b : Nat) (E : State → Prop) (o : Nat) (n : Nat) (sh : Nat → qC) (Rf : Nat → Nat → Option Nat) (I : Nat → Nat → Int32) (L : Nat → Nat → Int64) (post : Option Value → qS → Prop) (x1 : Int32) (x2 : Int32) : Prop :=
  Ev (qGG D cA b E) mPapers_leaveTo 2 (0, 0) 2 [(0, .ref o), (1, .int x1), (2, .int x2), (3, .int 0)] [] (n, sh, Rf, I, L) post
set_option maxHeartbeats 4000000 in
set_option maxRecDepth 20000 in
theorem sPapers_leaveTo_0 {D : va_G} {cA : FieldType → ClassId} {b : Nat} {E : State → Prop} (o : Nat) (n : Nat) (sh : Nat → qC) (Rf : Nat → Nat → Option Nat) (I : Nat → Nat → Int32) (L : Nat → Nat → Int64) (post : Option Value → qS → Prop) (x1 : Int32) (x2 : Int32) (hok : q_ok (qGG D cA b E)) (hw : WfPapers (qGG D cA b E) n sh Rf o) (H : fPapers_leaveTo_0 D cA b E o n sh Rf I L post x1 x2) : Ev (qGG D cA b E) mPapers_leaveTo 2 (0, 0) 0 [(0, .ref o), (1, .int x1), (2, .int x2)] [] (n, sh, Rf, I, L) post := by
  unfold fPapers_leaveTo_0 at H
  refine ev_iconst (0) dPapers_leaveTo_0 (by decide) ?_
  refine ev_istore_n dPapers_leaveTo_1 (by decide) ?_
  exact ev_sub [(0, .ref o), (1, .int x1), (2, .int x2), (3, .int 0)] rfl H
def fPapers_loseForged_35 (D : va_G) (cA : FieldType → ClassId) (b : Nat) (E : State → Prop) (o : Nat) (n : Nat) (sh : Nat → qC) (Rf : Nat → Nat → Option Nat) (I : Nat → Nat → Int32) (L : Nat → Nat → Int64) (post : Option Value → qS → Prop) (x1 : Int32) (x2 : Int32) : Prop :=
  Ev (qGG D cA b E) mPapers_loseForged 2 (0, 0) 2 [(0, .ref o), (1, .int x1), (2, .int ((x2 + Int32.ofInt 1)))] [] (n, sh, Rf, I, L) post
set_option maxHeartbeats 4000000 in
set_option maxRecDepth 20000 in
theorem sPapers_loseForged_35 {D : va_G} {cA : FieldType → ClassId} {b : Nat} {E : State → Prop} (o : Nat) (n : Nat) (sh : Nat → qC) (Rf : Nat → Nat → Option Nat) (I : Nat → Nat → Int32) (L : Nat → Nat → Int64) (post : Option Value → qS → Prop) (x1 : Int32) (x2 : Int32) (hok : q_ok (qGG D cA b E)) (hw : WfPapers (qGG D cA b E) n sh Rf o) (H : fPapers_loseForged_35 D cA b E o n sh Rf I L post x1 x2) : Ev (qGG D cA b E) mPapers_loseForged 2 (0, 0) 35 [(0, .ref o), (1, .int x1), (2, .int x2)] [] (n, sh, Rf, I, L) post := by
  unfold fPapers_loseForged_35 at H
  refine ev_iinc dPapers_loseForged_35 rfl (by decide) ?_
  refine ev_goto 2 dPapers_loseForged_38 (by decide) ?_
  exact ev_sub [(0, .ref o), (1, .int x1), (2, .int ((x2 + Int32.ofInt 1)))] rfl H
def fPapers_loseForged_2 (D : va_G) (cA : FieldType → ClassId) (b : Nat) (E : State → Prop) (o : Nat) (n : Nat) (sh : Nat → qC) (Rf : Nat → Nat → Option Nat) (I : Nat → Nat → Int32) (L : Nat → Nat → Int64) (post : Option Value → qS → Prop) (x1 : Int32) (x2 : Int32) : Prop :=
  (((I o 13) ≤ x2 → post none (n, sh, Rf, I, L)) ∧ (¬ (I o 13) ≤ x2 → vp_in x2 1440 ∧ vp_in (I (o + 11) (x2 : Int32).toNatClampNeg) 1440 ∧ ((x1 < (I (o + 10) ((I (o + 11) (x2 : Int32).toNatClampNeg) : Int32).toNatClampNeg) → fPapers_loseForged_35 D cA b E o n sh Rf I L post x1 x2) ∧ (¬ x1 < (I (o + 10) ((I (o + 11) (x2 : Int32).toNatClampNeg) : Int32).toNatClampNeg) → vp_in x2 1440 ∧ Ev (qGG D cA b E) mPapers_lose 1 (0, 0) 0 (lv_args 0 [.ref o, .int ((I (o + 11) (x2 : Int32).toNatClampNeg))]) [] (n, sh, Rf, I, L) (fun v τ => ∃ (I8 : Nat → Nat → Int32) (L9 : Nat → Nat → Int64), v = none ∧ τ = (n, sh, Rf, I8, L9) ∧ fPapers_loseForged_35 D cA b E o n sh Rf I8 L9 post x1 x2)))))
set_option maxHeartbeats 4000000 in
set_option maxRecDepth 20000 in
theorem sPapers_loseForged_2 {D : va_G} {cA : FieldType → ClassId} {b : Nat} {E : State → Prop} (o : Nat) (n : Nat) (sh : Nat → qC) (Rf : Nat → Nat → Option Nat) (I : Nat → Nat → Int32) (L : Nat → Nat → Int64) (post : Option Value → qS → Prop) (x1 : Int32) (x2 : Int32) (hok : q_ok (qGG D cA b E)) (hw : WfPapers (qGG D cA b E) n sh Rf o) (H : fPapers_loseForged_2 D cA b E o n sh Rf I L post x1 x2) : Ev (qGG D cA b E) mPapers_loseForged 2 (0, 0) 2 [(0, .ref o), (1, .int x1), (2, .int x2)] [] (n, sh, Rf, I, L) post := by
  unfold fPapers_loseForged_2 at H
  refine ev_iload_n dPapers_loseForged_2 rfl ?_
  refine ev_aload_n dPapers_loseForged_3 rfl ?_
  refine ev_getI hok fk_Papers_52 (woPapers hw) (fun _ _ _ => rfl) dPapers_loseForged_4 ?_
  refine ev_icmp_ge 41 dPapers_loseForged_7 (by decide) (fun c1 => ?_) (fun c1 => ?_)
  · have H := H.1 c1
    exact ev_vret rfl dPapers_loseForged_41 H
  · have H := H.2 c1
    refine ev_aload_n dPapers_loseForged_10 rfl ?_
    refine ev_getR hok fk_Papers_39 (woPapers hw) (fun _ _ _ => rfl) (wrPapers_9 hw) dPapers_loseForged_11 ?_
    refine ev_aload_n dPapers_loseForged_14 rfl ?_
    refine ev_getR hok fk_Papers_42 (woPapers hw) (fun _ _ _ => rfl) (wrPapers_10 hw) dPapers_loseForged_15 ?_
    refine ev_iload_n dPapers_loseForged_18 rfl ?_
    obtain ⟨h2, H⟩ := H
    refine ev_iald hok (waPapers_10 hw) h2 dPapers_loseForged_19 ?_
    obtain ⟨h3, H⟩ := H
    refine ev_iald hok (waPapers_9 hw) h3 dPapers_loseForged_20 ?_
    refine ev_iload_n dPapers_loseForged_21 rfl ?_
    refine ev_icmp_gt 35 dPapers_loseForged_22 (by decide) (fun c4 => ?_) (fun c4 => ?_)
    · have H := H.1 c4
      exact ev_sub [(0, .ref o), (1, .int x1), (2, .int x2)] rfl (sPapers_loseForged_35 o n sh Rf I L post x1 x2 hok hw H)
    · have H := H.2 c4
      refine ev_aload_n dPapers_loseForged_25 rfl ?_
      refine ev_aload_n dPapers_loseForged_26 rfl ?_
      refine ev_getR hok fk_Papers_42 (woPapers hw) (fun _ _ _ => rfl) (wrPapers_10 hw) dPapers_loseForged_27 ?_
      refine ev_iload_n dPapers_loseForged_30 rfl ?_
      obtain ⟨h5, H⟩ := H
      refine ev_iald hok (waPapers_10 hw) h5 dPapers_loseForged_31 ?_
      refine ev_callV [.int ((I (o + 11) (x2 : Int32).toNatClampNeg))] [] (B' := (0, 0)) (B'' := (0, 0)) hok mmPapers_lose mk_Papers_92 (ci := 3) rfl rfl (woPapers hw) rfl (Nat.le_of_ble_eq_true rfl) rfl (Nat.le_of_ble_eq_true rfl) dPapers_loseForged_32 rfl (by decide) H (fun v τ p6 => ?_)
      obtain ⟨I8, L9, rfl, rfl, H⟩ := p6
      exact ev_sub [(0, .ref o), (1, .int x1), (2, .int x2)] rfl (sPapers_loseForged_35 o n sh Rf I8 L9 post x1 x2 hok hw H)
def fPapers_loseForged_0 (D : va_G) (cA : FieldType → ClassId) (b : Nat) (E : State → Prop) (o : Nat) (n : Nat) (sh : Nat → qC) (Rf : Nat → Nat → Option Nat) (I : Nat → Nat → Int32) (L : Nat → Nat → Int64) (post : Option Value → qS → Prop) (x1 : Int32) : Prop :=
  Ev (qGG D cA b E) mPapers_loseForged 2 (0, 0) 2 [(0, .ref o), (1, .int x1), (2, .int 0)] [] (n, sh, Rf, I, L) post
set_option maxHeartbeats 4000000 in
set_option maxRecDepth 20000 in
theorem sPapers_loseForged_0 {D : va_G} {cA : FieldType → ClassId} {b : Nat} {E : State → Prop} (o : Nat) (n : Nat) (sh : Nat → qC) (Rf : Nat → Nat → Option Nat) (I : Nat → Nat → Int32) (L : Nat → Nat → Int64) (post : Option Value → qS → Prop) (x1 : Int32) (hok : q_ok (qGG D cA b E)) (hw : WfPapers (qGG D cA b E) n sh Rf o) (H : fPapers_loseForged_0 D cA b E o n sh Rf I L post x1) : Ev (qGG D cA b E) mPapers_loseForged 2 (0, 0) 0 [(0, .ref o), (1, .int x1)] [] (n, sh, Rf, I, L) post := by
  unfold fPapers_loseForged_0 at H
  refine ev_iconst (0) dPapers_loseForged_0 (by decide) ?_
  refine ev_istore_n dPapers_loseForged_1 (by decide) ?_
  exact ev_sub [(0, .ref o), (1, .int x1), (2, .int 0)] rfl H
def fRecords_keepRealm_127 (D : va_G) (cA : FieldType → ClassId) (b : Nat) (E : State → Prop) (o : Nat) (n : Nat) (sh : Nat → qC) (Rf : Nat → Nat → Option Nat) (I : Nat → Nat → Int32) (L : Nat → Nat → Int64) (post : Option Value → qS → Prop) (x1 : Nat) (x2 : Nat) (x3 : Nat) (x4 : Int32) (x5 : Int32) : Prop :=
  (((I x2 3) ≤ x5 → post none (n, sh, Rf, I, L)) ∧ (¬ (I x2 3) ≤ x5 → vp_in x5 5 ∧ vp_in (((x4 * 5) + x5) * 3) 3600 ∧ ∀ I3 : Nat → Nat → Int32, q_u I (o + 3) ((((x4 * 5) + x5) * 3) : Int32).toNatClampNeg (I (x1 + 4) (x5 : Int32).toNatClampNeg) = I3 → Ev (qGG D cA b E) mRealm_priceIn 1 (0, 0) 0 (lv_args 0 [.ref x1, .ref x2, .int x5]) [] (n, sh, Rf, I3, L) (fun v τ => ∃ (r6 : Int32) (I7 : Nat → Nat → Int32) (L8 : Nat → Nat → Int64), v = some (.int r6) ∧ τ = (n, sh, Rf, I7, L8) ∧ vp_in ((((x4 * 5) + x5) * 3) + 1) 3600 ∧ ∀ I9 : Nat → Nat → Int32, q_u I7 (o + 3) (((((x4 * 5) + x5) * 3) + 1) : Int32).toNatClampNeg r6 = I9 → vp_in x5 5 ∧ vp_in ((((x4 * 5) + x5) * 3) + 2) 3600 ∧ ∀ I12 : Nat → Nat → Int32, q_u I9 (o + 3) (((((x4 * 5) + x5) * 3) + 2) : Int32).toNatClampNeg (I9 (x1 + 5) (x5 : Int32).toNatClampNeg) = I12 → Ev (qGG D cA b E) mRecords_keepRealm 2 (0, 0) 127 [(0, .ref o), (1, .ref x1), (2, .ref x2), (3, .ref x3), (4, .int x4), (5, .int ((x5 + Int32.ofInt 1)))] [] (n, sh, Rf, I12, L8) post)))
set_option maxHeartbeats 4000000 in
set_option maxRecDepth 20000 in
theorem sRecords_keepRealm_127 {D : va_G} {cA : FieldType → ClassId} {b : Nat} {E : State → Prop} (o : Nat) (n : Nat) (sh : Nat → qC) (Rf : Nat → Nat → Option Nat) (I : Nat → Nat → Int32) (L : Nat → Nat → Int64) (post : Option Value → qS → Prop) (x1 : Nat) (x2 : Nat) (x3 : Nat) (x4 : Int32) (x5 : Int32) (hok : q_ok (qGG D cA b E)) (hw : WfRecords (qGG D cA b E) n sh Rf o) (hw1 : WfRealm (qGG D cA b E) n sh Rf x1) (hw2 : WfLand (qGG D cA b E) n sh Rf x2) (hw3 : WfPapers (qGG D cA b E) n sh Rf x3) (H : fRecords_keepRealm_127 D cA b E o n sh Rf I L post x1 x2 x3 x4 x5) : Ev (qGG D cA b E) mRecords_keepRealm 2 (0, 0) 127 [(0, .ref o), (1, .ref x1), (2, .ref x2), (3, .ref x3), (4, .int x4), (5, .int x5)] [] (n, sh, Rf, I, L) post := by
  unfold fRecords_keepRealm_127 at H
  refine ev_iload dRecords_keepRealm_127 rfl ?_
  refine ev_aload_n dRecords_keepRealm_129 rfl ?_
  refine ev_getI hok fk_Records_48 (woLand hw2) (fun _ _ _ => rfl) dRecords_keepRealm_130 ?_
  refine ev_icmp_ge 209 dRecords_keepRealm_133 (by decide) (fun c1 => ?_) (fun c1 => ?_)
  · have H := H.1 c1
    exact ev_vret rfl dRecords_keepRealm_209 H
  · have H := H.2 c1
    refine ev_aload_n dRecords_keepRealm_136 rfl ?_
    refine ev_getR hok fk_Records_18 (woRecords hw) (fun _ _ _ => rfl) (wrRecords_2 hw) dRecords_keepRealm_137 ?_
    refine ev_iload dRecords_keepRealm_140 rfl ?_
    refine ev_iconst (5) dRecords_keepRealm_142 (by decide) ?_
    refine ev_imul dRecords_keepRealm_143 ?_
    refine ev_iload dRecords_keepRealm_144 rfl ?_
    refine ev_iadd dRecords_keepRealm_146 ?_
    refine ev_iconst (3) dRecords_keepRealm_147 (by decide) ?_
    refine ev_imul dRecords_keepRealm_148 ?_
    refine ev_aload_n dRecords_keepRealm_149 rfl ?_
    refine ev_getR hok fk_Records_50 (woRealm hw1) (fun _ _ _ => rfl) (wrRealm_3 hw1) dRecords_keepRealm_150 ?_
    refine ev_iload dRecords_keepRealm_153 rfl ?_
    obtain ⟨h2, H⟩ := H
    refine ev_iald hok (waRealm_3 hw1) h2 dRecords_keepRealm_155 ?_
    obtain ⟨h4, H⟩ := H
    refine ev_iast hok (waRecords_2 hw) h4 dRecords_keepRealm_156 ?_
    generalize eI3 : q_u I (o + 3) ((((x4 * 5) + x5) * 3) : Int32).toNatClampNeg (I (x1 + 4) (x5 : Int32).toNatClampNeg) = I3
    have H := H I3 eI3
    refine ev_aload_n dRecords_keepRealm_157 rfl ?_
    refine ev_getR hok fk_Records_18 (woRecords hw) (fun _ _ _ => rfl) (wrRecords_2 hw) dRecords_keepRealm_158 ?_
    refine ev_iload dRecords_keepRealm_161 rfl ?_
    refine ev_iconst (5) dRecords_keepRealm_163 (by decide) ?_
    refine ev_imul dRecords_keepRealm_164 ?_
    refine ev_iload dRecords_keepRealm_165 rfl ?_
    refine ev_iadd dRecords_keepRealm_167 ?_
    refine ev_iconst (3) dRecords_keepRealm_168 (by decide) ?_
    refine ev_imul dRecords_keepRealm_169 ?_
    refine ev_iconst (1) dRecords_keepRealm_170 (by decide) ?_
    refine ev_iadd dRecords_keepRealm_171 ?_
    refine ev_aload_n dRecords_keepRealm_172 rfl ?_
    refine ev_aload_n dRecords_keepRealm_173 rfl ?_
    refine ev_iload dRecords_keepRealm_174 rfl ?_
    refine ev_callV [.ref x2, .int x5] [.int (((((x4 * 5) + x5) * 3) + 1)), .ref ((o + 3))] (B' := (0, 0)) (B'' := (0, 0)) hok mmRealm_priceIn mk_Records_53 (ci := 4) rfl rfl (woRealm hw1) rfl (Nat.le_of_ble_eq_true rfl) rfl (Nat.le_of_ble_eq_true rfl) dRecords_keepRealm_176 rfl (by decide) H (fun v τ p5 => ?_)
    obtain ⟨r6, I7, L8, rfl, rfl, H⟩ := p5
    obtain ⟨h10, H⟩ := H
    refine ev_iast hok (waRecords_2 hw) h10 dRecords_keepRealm_179 ?_
    generalize eI9 : q_u I7 (o + 3) (((((x4 * 5) + x5) * 3) + 1) : Int32).toNatClampNeg r6 = I9
    have H := H I9 eI9
    refine ev_aload_n dRecords_keepRealm_180 rfl ?_
    refine ev_getR hok fk_Records_18 (woRecords hw) (fun _ _ _ => rfl) (wrRecords_2 hw) dRecords_keepRealm_181 ?_
    refine ev_iload dRecords_keepRealm_184 rfl ?_
    refine ev_iconst (5) dRecords_keepRealm_186 (by decide) ?_
    refine ev_imul dRecords_keepRealm_187 ?_
    refine ev_iload dRecords_keepRealm_188 rfl ?_
    refine ev_iadd dRecords_keepRealm_190 ?_
    refine ev_iconst (3) dRecords_keepRealm_191 (by decide) ?_
    refine ev_imul dRecords_keepRealm_192 ?_
    refine ev_iconst (2) dRecords_keepRealm_193 (by decide) ?_
    refine ev_iadd dRecords_keepRealm_194 ?_
    refine ev_aload_n dRecords_keepRealm_195 rfl ?_
    refine ev_getR hok fk_Records_57 (woRealm hw1) (fun _ _ _ => rfl) (wrRealm_4 hw1) dRecords_keepRealm_196 ?_
    refine ev_iload dRecords_keepRealm_199 rfl ?_
    obtain ⟨h11, H⟩ := H
    refine ev_iald hok (waRealm_4 hw1) h11 dRecords_keepRealm_201 ?_
    obtain ⟨h13, H⟩ := H
    refine ev_iast hok (waRecords_2 hw) h13 dRecords_keepRealm_202 ?_
    generalize eI12 : q_u I9 (o + 3) (((((x4 * 5) + x5) * 3) + 2) : Int32).toNatClampNeg (I9 (x1 + 5) (x5 : Int32).toNatClampNeg) = I12
    have H := H I12 eI12
    refine ev_iinc dRecords_keepRealm_203 rfl (by decide) ?_
    refine ev_goto 127 dRecords_keepRealm_206 (by decide) ?_
    exact ev_sub [(0, .ref o), (1, .ref x1), (2, .ref x2), (3, .ref x3), (4, .int x4), (5, .int ((x5 + Int32.ofInt 1)))] rfl H
def fRecords_keepRealm_65 (D : va_G) (cA : FieldType → ClassId) (b : Nat) (E : State → Prop) (o : Nat) (n : Nat) (sh : Nat → qC) (Rf : Nat → Nat → Option Nat) (I : Nat → Nat → Int32) (L : Nat → Nat → Int64) (post : Option Value → qS → Prop) (x1 : Nat) (x2 : Nat) (x3 : Nat) (x4 : Int32) (x5 : Int32) : Prop :=
  (((I x2 2) ≤ x5 → Ev (qGG D cA b E) mRecords_keepRealm 2 (0, 0) 127 [(0, .ref o), (1, .ref x1), (2, .ref x2), (3, .ref x3), (4, .int x4), (5, .int 0)] [] (n, sh, Rf, I, L) post) ∧ (¬ (I x2 2) ≤ x5 → vp_in x5 3 ∧ vp_in (((x4 * 3) + x5) * 2) 1440 ∧ ∀ I3 : Nat → Nat → Int32, q_u I (o + 2) ((((x4 * 3) + x5) * 2) : Int32).toNatClampNeg (I (x1 + 3) (x5 : Int32).toNatClampNeg) = I3 → vp_in x5 3 ∧ vp_in ((((x4 * 3) + x5) * 2) + 1) 1440 ∧ ∀ I6 : Nat → Nat → Int32, q_u I3 (o + 2) (((((x4 * 3) + x5) * 2) + 1) : Int32).toNatClampNeg (I3 (x3 + 12) (x5 : Int32).toNatClampNeg) = I6 → Ev (qGG D cA b E) mRecords_keepRealm 2 (0, 0) 65 [(0, .ref o), (1, .ref x1), (2, .ref x2), (3, .ref x3), (4, .int x4), (5, .int ((x5 + Int32.ofInt 1)))] [] (n, sh, Rf, I6, L) post))
set_option maxHeartbeats 4000000 in
set_option maxRecDepth 20000 in
theorem sRecords_keepRealm_65 {D : va_G} {cA : FieldType → ClassId} {b : Nat} {E : State → Prop} (o : Nat) (n : Nat) (sh : Nat → qC) (Rf : Nat → Nat → Option Nat) (I : Nat → Nat → Int32) (L : Nat → Nat → Int64) (post : Option Value → qS → Prop) (x1 : Nat) (x2 : Nat) (x3 : Nat) (x4 : Int32) (x5 : Int32) (hok : q_ok (qGG D cA b E)) (hw : WfRecords (qGG D cA b E) n sh Rf o) (hw1 : WfRealm (qGG D cA b E) n sh Rf x1) (hw2 : WfLand (qGG D cA b E) n sh Rf x2) (hw3 : WfPapers (qGG D cA b E) n sh Rf x3) (H : fRecords_keepRealm_65 D cA b E o n sh Rf I L post x1 x2 x3 x4 x5) : Ev (qGG D cA b E) mRecords_keepRealm 2 (0, 0) 65 [(0, .ref o), (1, .ref x1), (2, .ref x2), (3, .ref x3), (4, .int x4), (5, .int x5)] [] (n, sh, Rf, I, L) post := by
  unfold fRecords_keepRealm_65 at H
  refine ev_iload dRecords_keepRealm_65 rfl ?_
  refine ev_aload_n dRecords_keepRealm_67 rfl ?_
  refine ev_getI hok fk_Records_38 (woLand hw2) (fun _ _ _ => rfl) dRecords_keepRealm_68 ?_
  refine ev_icmp_ge 124 dRecords_keepRealm_71 (by decide) (fun c1 => ?_) (fun c1 => ?_)
  · have H := H.1 c1
    refine ev_iconst (0) dRecords_keepRealm_124 (by decide) ?_
    refine ev_istore dRecords_keepRealm_125 (by decide) ?_
    exact ev_sub [(0, .ref o), (1, .ref x1), (2, .ref x2), (3, .ref x3), (4, .int x4), (5, .int 0)] rfl H
  · have H := H.2 c1
    refine ev_aload_n dRecords_keepRealm_74 rfl ?_
    refine ev_getR hok fk_Records_15 (woRecords hw) (fun _ _ _ => rfl) (wrRecords_1 hw) dRecords_keepRealm_75 ?_
    refine ev_iload dRecords_keepRealm_78 rfl ?_
    refine ev_iconst (3) dRecords_keepRealm_80 (by decide) ?_
    refine ev_imul dRecords_keepRealm_81 ?_
    refine ev_iload dRecords_keepRealm_82 rfl ?_
    refine ev_iadd dRecords_keepRealm_84 ?_
    refine ev_iconst (2) dRecords_keepRealm_85 (by decide) ?_
    refine ev_imul dRecords_keepRealm_86 ?_
    refine ev_aload_n dRecords_keepRealm_87 rfl ?_
    refine ev_getR hok fk_Records_40 (woRealm hw1) (fun _ _ _ => rfl) (wrRealm_2 hw1) dRecords_keepRealm_88 ?_
    refine ev_iload dRecords_keepRealm_91 rfl ?_
    obtain ⟨h2, H⟩ := H
    refine ev_iald hok (waRealm_2 hw1) h2 dRecords_keepRealm_93 ?_
    obtain ⟨h4, H⟩ := H
    refine ev_iast hok (waRecords_1 hw) h4 dRecords_keepRealm_94 ?_
    generalize eI3 : q_u I (o + 2) ((((x4 * 3) + x5) * 2) : Int32).toNatClampNeg (I (x1 + 3) (x5 : Int32).toNatClampNeg) = I3
    have H := H I3 eI3
    refine ev_aload_n dRecords_keepRealm_95 rfl ?_
    refine ev_getR hok fk_Records_15 (woRecords hw) (fun _ _ _ => rfl) (wrRecords_1 hw) dRecords_keepRealm_96 ?_
    refine ev_iload dRecords_keepRealm_99 rfl ?_
    refine ev_iconst (3) dRecords_keepRealm_101 (by decide) ?_
    refine ev_imul dRecords_keepRealm_102 ?_
    refine ev_iload dRecords_keepRealm_103 rfl ?_
    refine ev_iadd dRecords_keepRealm_105 ?_
    refine ev_iconst (2) dRecords_keepRealm_106 (by decide) ?_
    refine ev_imul dRecords_keepRealm_107 ?_
    refine ev_iconst (1) dRecords_keepRealm_108 (by decide) ?_
    refine ev_iadd dRecords_keepRealm_109 ?_
    refine ev_aload_n dRecords_keepRealm_110 rfl ?_
    refine ev_getR hok fk_Records_43 (woPapers hw3) (fun _ _ _ => rfl) (wrPapers_11 hw3) dRecords_keepRealm_111 ?_
    refine ev_iload dRecords_keepRealm_114 rfl ?_
    obtain ⟨h5, H⟩ := H
    refine ev_iald hok (waPapers_11 hw3) h5 dRecords_keepRealm_116 ?_
    obtain ⟨h7, H⟩ := H
    refine ev_iast hok (waRecords_1 hw) h7 dRecords_keepRealm_117 ?_
    generalize eI6 : q_u I3 (o + 2) (((((x4 * 3) + x5) * 2) + 1) : Int32).toNatClampNeg (I3 (x3 + 12) (x5 : Int32).toNatClampNeg) = I6
    have H := H I6 eI6
    refine ev_iinc dRecords_keepRealm_118 rfl (by decide) ?_
    refine ev_goto 65 dRecords_keepRealm_121 (by decide) ?_
    exact ev_sub [(0, .ref o), (1, .ref x1), (2, .ref x2), (3, .ref x3), (4, .int x4), (5, .int ((x5 + Int32.ofInt 1)))] rfl H
def fRecords_keepRealm_3 (D : va_G) (cA : FieldType → ClassId) (b : Nat) (E : State → Prop) (o : Nat) (n : Nat) (sh : Nat → qC) (Rf : Nat → Nat → Option Nat) (I : Nat → Nat → Int32) (L : Nat → Nat → Int64) (post : Option Value → qS → Prop) (x1 : Nat) (x2 : Nat) (x3 : Nat) (x4 : Int32) (x5 : Int32) : Prop :=
  (((I x2 1) ≤ x5 → Ev (qGG D cA b E) mRecords_keepRealm 2 (0, 0) 65 [(0, .ref o), (1, .ref x1), (2, .ref x2), (3, .ref x3), (4, .int x4), (5, .int 0)] [] (n, sh, Rf, I, L) post) ∧ (¬ (I x2 1) ≤ x5 → vp_in x5 3 ∧ vp_in (((x4 * 3) + x5) * 2) 1440 ∧ ∀ I3 : Nat → Nat → Int32, q_u I (o + 1) ((((x4 * 3) + x5) * 2) : Int32).toNatClampNeg (I (x1 + 1) (x5 : Int32).toNatClampNeg) = I3 → vp_in x5 3 ∧ vp_in ((((x4 * 3) + x5) * 2) + 1) 1440 ∧ ∀ I6 : Nat → Nat → Int32, q_u I3 (o + 1) (((((x4 * 3) + x5) * 2) + 1) : Int32).toNatClampNeg (I3 (x1 + 2) (x5 : Int32).toNatClampNeg) = I6 → Ev (qGG D cA b E) mRecords_keepRealm 2 (0, 0) 3 [(0, .ref o), (1, .ref x1), (2, .ref x2), (3, .ref x3), (4, .int x4), (5, .int ((x5 + Int32.ofInt 1)))] [] (n, sh, Rf, I6, L) post))
set_option maxHeartbeats 4000000 in
set_option maxRecDepth 20000 in
theorem sRecords_keepRealm_3 {D : va_G} {cA : FieldType → ClassId} {b : Nat} {E : State → Prop} (o : Nat) (n : Nat) (sh : Nat → qC) (Rf : Nat → Nat → Option Nat) (I : Nat → Nat → Int32) (L : Nat → Nat → Int64) (post : Option Value → qS → Prop) (x1 : Nat) (x2 : Nat) (x3 : Nat) (x4 : Int32) (x5 : Int32) (hok : q_ok (qGG D cA b E)) (hw : WfRecords (qGG D cA b E) n sh Rf o) (hw1 : WfRealm (qGG D cA b E) n sh Rf x1) (hw2 : WfLand (qGG D cA b E) n sh Rf x2) (hw3 : WfPapers (qGG D cA b E) n sh Rf x3) (H : fRecords_keepRealm_3 D cA b E o n sh Rf I L post x1 x2 x3 x4 x5) : Ev (qGG D cA b E) mRecords_keepRealm 2 (0, 0) 3 [(0, .ref o), (1, .ref x1), (2, .ref x2), (3, .ref x3), (4, .int x4), (5, .int x5)] [] (n, sh, Rf, I, L) post := by
  unfold fRecords_keepRealm_3 at H
  refine ev_iload dRecords_keepRealm_3 rfl ?_
  refine ev_aload_n dRecords_keepRealm_5 rfl ?_
  refine ev_getI hok fk_Records_25 (woLand hw2) (fun _ _ _ => rfl) dRecords_keepRealm_6 ?_
  refine ev_icmp_ge 62 dRecords_keepRealm_9 (by decide) (fun c1 => ?_) (fun c1 => ?_)
  · have H := H.1 c1
    refine ev_iconst (0) dRecords_keepRealm_62 (by decide) ?_
    refine ev_istore dRecords_keepRealm_63 (by decide) ?_
    exact ev_sub [(0, .ref o), (1, .ref x1), (2, .ref x2), (3, .ref x3), (4, .int x4), (5, .int 0)] rfl H
  · have H := H.2 c1
    refine ev_aload_n dRecords_keepRealm_12 rfl ?_
    refine ev_getR hok fk_Records_9 (woRecords hw) (fun _ _ _ => rfl) (wrRecords_0 hw) dRecords_keepRealm_13 ?_
    refine ev_iload dRecords_keepRealm_16 rfl ?_
    refine ev_iconst (3) dRecords_keepRealm_18 (by decide) ?_
    refine ev_imul dRecords_keepRealm_19 ?_
    refine ev_iload dRecords_keepRealm_20 rfl ?_
    refine ev_iadd dRecords_keepRealm_22 ?_
    refine ev_iconst (2) dRecords_keepRealm_23 (by decide) ?_
    refine ev_imul dRecords_keepRealm_24 ?_
    refine ev_aload_n dRecords_keepRealm_25 rfl ?_
    refine ev_getR hok fk_Records_30 (woRealm hw1) (fun _ _ _ => rfl) (wrRealm_0 hw1) dRecords_keepRealm_26 ?_
    refine ev_iload dRecords_keepRealm_29 rfl ?_
    obtain ⟨h2, H⟩ := H
    refine ev_iald hok (waRealm_0 hw1) h2 dRecords_keepRealm_31 ?_
    obtain ⟨h4, H⟩ := H
    refine ev_iast hok (waRecords_0 hw) h4 dRecords_keepRealm_32 ?_
    generalize eI3 : q_u I (o + 1) ((((x4 * 3) + x5) * 2) : Int32).toNatClampNeg (I (x1 + 1) (x5 : Int32).toNatClampNeg) = I3
    have H := H I3 eI3
    refine ev_aload_n dRecords_keepRealm_33 rfl ?_
    refine ev_getR hok fk_Records_9 (woRecords hw) (fun _ _ _ => rfl) (wrRecords_0 hw) dRecords_keepRealm_34 ?_
    refine ev_iload dRecords_keepRealm_37 rfl ?_
    refine ev_iconst (3) dRecords_keepRealm_39 (by decide) ?_
    refine ev_imul dRecords_keepRealm_40 ?_
    refine ev_iload dRecords_keepRealm_41 rfl ?_
    refine ev_iadd dRecords_keepRealm_43 ?_
    refine ev_iconst (2) dRecords_keepRealm_44 (by decide) ?_
    refine ev_imul dRecords_keepRealm_45 ?_
    refine ev_iconst (1) dRecords_keepRealm_46 (by decide) ?_
    refine ev_iadd dRecords_keepRealm_47 ?_
    refine ev_aload_n dRecords_keepRealm_48 rfl ?_
    refine ev_getR hok fk_Records_35 (woRealm hw1) (fun _ _ _ => rfl) (wrRealm_1 hw1) dRecords_keepRealm_49 ?_
    refine ev_iload dRecords_keepRealm_52 rfl ?_
    obtain ⟨h5, H⟩ := H
    refine ev_iald hok (waRealm_1 hw1) h5 dRecords_keepRealm_54 ?_
    obtain ⟨h7, H⟩ := H
    refine ev_iast hok (waRecords_0 hw) h7 dRecords_keepRealm_55 ?_
    generalize eI6 : q_u I3 (o + 1) (((((x4 * 3) + x5) * 2) + 1) : Int32).toNatClampNeg (I3 (x1 + 2) (x5 : Int32).toNatClampNeg) = I6
    have H := H I6 eI6
    refine ev_iinc dRecords_keepRealm_56 rfl (by decide) ?_
    refine ev_goto 3 dRecords_keepRealm_59 (by decide) ?_
    exact ev_sub [(0, .ref o), (1, .ref x1), (2, .ref x2), (3, .ref x3), (4, .int x4), (5, .int ((x5 + Int32.ofInt 1)))] rfl H
def fRecords_keepRealm_0 (D : va_G) (cA : FieldType → ClassId) (b : Nat) (E : State → Prop) (o : Nat) (n : Nat) (sh : Nat → qC) (Rf : Nat → Nat → Option Nat) (I : Nat → Nat → Int32) (L : Nat → Nat → Int64) (post : Option Value → qS → Prop) (x1 : Nat) (x2 : Nat) (x3 : Nat) (x4 : Int32) : Prop :=
  Ev (qGG D cA b E) mRecords_keepRealm 2 (0, 0) 3 [(0, .ref o), (1, .ref x1), (2, .ref x2), (3, .ref x3), (4, .int x4), (5, .int 0)] [] (n, sh, Rf, I, L) post
set_option maxHeartbeats 4000000 in
set_option maxRecDepth 20000 in
theorem sRecords_keepRealm_0 {D : va_G} {cA : FieldType → ClassId} {b : Nat} {E : State → Prop} (o : Nat) (n : Nat) (sh : Nat → qC) (Rf : Nat → Nat → Option Nat) (I : Nat → Nat → Int32) (L : Nat → Nat → Int64) (post : Option Value → qS → Prop) (x1 : Nat) (x2 : Nat) (x3 : Nat) (x4 : Int32) (hok : q_ok (qGG D cA b E)) (hw : WfRecords (qGG D cA b E) n sh Rf o) (hw1 : WfRealm (qGG D cA b E) n sh Rf x1) (hw2 : WfLand (qGG D cA b E) n sh Rf x2) (hw3 : WfPapers (qGG D cA b E) n sh Rf x3) (H : fRecords_keepRealm_0 D cA b E o n sh Rf I L post x1 x2 x3 x4) : Ev (qGG D cA b E) mRecords_keepRealm 2 (0, 0) 0 [(0, .ref o), (1, .ref x1), (2, .ref x2), (3, .ref x3), (4, .int x4)] [] (n, sh, Rf, I, L) post := by
  unfold fRecords_keepRealm_0 at H
  refine ev_iconst (0) dRecords_keepRealm_0 (by decide) ?_
  refine ev_istore dRecords_keepRealm_1 (by decide) ?_
  exact ev_sub [(0, .ref o), (1, .ref x1), (2, .ref x2), (3, .ref x3), (4, .int x4), (5, .int 0)] rfl H
def fRun_begin_45 (D : va_G) (cA : FieldType → ClassId) (b : Nat) (E : State → Prop) (o : Nat) (n : Nat) (sh : Nat → qC) (Rf : Nat → Nat → Option Nat) (I : Nat → Nat → Int32) (L : Nat → Nat → Int64) (post : Option Value → qS → Prop) (x1 : Nat) (x2 : Int32) (x3 : Int32) (uo_0 : Nat) (uo_1 : Nat) : Prop :=
  (((I uo_1 1) ≤ x3 → Ev (qGG D cA b E) mRun_readDeaths 1 (0, 0) 0 (lv_args 0 [.ref o, .ref x1, .int x2]) [] (n, sh, Rf, I, L) (fun v τ => ∃ (I4 : Nat → Nat → Int32) (L5 : Nat → Nat → Int64), v = none ∧ τ = (n, sh, Rf, I4, L5) ∧ post none (n, sh, Rf, I4, L5))) ∧ (¬ (I uo_1 1) ≤ x3 → vp_in x3 6 ∧ vp_in x3 6 ∧ ∀ L7 : Nat → Nat → Int64, q_u L (o + 61) (x3 : Int32).toNatClampNeg (((I (uo_1 + 1) (x3 : Int32).toNatClampNeg) : Int32).toInt64) = L7 → Ev (qGG D cA b E) mRun_begin 2 (0, 0) 45 [(0, .ref o), (1, .ref x1), (2, .int x2), (3, .int ((x3 + Int32.ofInt 1)))] [] (n, sh, Rf, I, L7) post))
set_option maxHeartbeats 4000000 in
set_option maxRecDepth 20000 in
theorem sRun_begin_45 {D : va_G} {cA : FieldType → ClassId} {b : Nat} {E : State → Prop} (o : Nat) (n : Nat) (sh : Nat → qC) (Rf : Nat → Nat → Option Nat) (I : Nat → Nat → Int32) (L : Nat → Nat → Int64) (post : Option Value → qS → Prop) (x1 : Nat) (x2 : Int32) (x3 : Int32) (uo_0 : Nat) (uo_1 : Nat) (hok : q_ok (qGG D cA b E)) (hw : WfRun (qGG D cA b E) n sh Rf o) (hw1 : WfFacts (qGG D cA b E) n sh Rf x1) (huo_0 : Rf o 0 = some uo_0) (hwuo_0 : WfLand (qGG D cA b E) n sh Rf uo_0) (huo_1 : Rf o 1 = some uo_1) (hwuo_1 : WfTrade (qGG D cA b E) n sh Rf uo_1) (H : fRun_begin_45 D cA b E o n sh Rf I L post x1 x2 x3 uo_0 uo_1) : Ev (qGG D cA b E) mRun_begin 2 (0, 0) 45 [(0, .ref o), (1, .ref x1), (2, .int x2), (3, .int x3)] [] (n, sh, Rf, I, L) post := by
  unfold fRun_begin_45 at H
  refine ev_iload_n dRun_begin_45 rfl ?_
  refine ev_aload_n dRun_begin_46 rfl ?_
  refine ev_getR hok fk_Run_21 (woRun hw) (fun _ _ _ => rfl) huo_1 dRun_begin_47 ?_
  refine ev_getI hok fk_Run_174 (woTrade hwuo_1) (fun _ _ _ => rfl) dRun_begin_50 ?_
  refine ev_icmp_ge 78 dRun_begin_53 (by decide) (fun c1 => ?_) (fun c1 => ?_)
  · have H := H.1 c1
    refine ev_aload_n dRun_begin_78 rfl ?_
    refine ev_aload_n dRun_begin_79 rfl ?_
    refine ev_iload_n dRun_begin_80 rfl ?_
    refine ev_callV [.ref x1, .int x2] [] (B' := (0, 0)) (B'' := (0, 0)) hok mmRun_readDeaths mk_Run_179 (ci := 7) rfl rfl (woRun hw) rfl (Nat.le_of_ble_eq_true rfl) rfl (Nat.le_of_ble_eq_true rfl) dRun_begin_81 rfl (by decide) H (fun v τ p2 => ?_)
    obtain ⟨I4, L5, rfl, rfl, H⟩ := p2
    exact ev_vret rfl dRun_begin_84 H
  · have H := H.2 c1
    refine ev_aload_n dRun_begin_56 rfl ?_
    refine ev_getR hok fk_Run_74 (woRun hw) (fun _ _ _ => rfl) (wrRun_10 hw) dRun_begin_57 ?_
    refine ev_iload_n dRun_begin_60 rfl ?_
    refine ev_aload_n dRun_begin_61 rfl ?_
    refine ev_getR hok fk_Run_21 (woRun hw) (fun _ _ _ => rfl) huo_1 dRun_begin_62 ?_
    refine ev_getR hok fk_Run_177 (woTrade hwuo_1) (fun _ _ _ => rfl) (wrTrade_0 hwuo_1) dRun_begin_65 ?_
    refine ev_iload_n dRun_begin_68 rfl ?_
    obtain ⟨h6, H⟩ := H
    refine ev_iald hok (waTrade_0 hwuo_1) h6 dRun_begin_69 ?_
    refine ev_i2l dRun_begin_70 ?_
    obtain ⟨h8, H⟩ := H
    refine ev_last hok (waRun_10 hw) h8 dRun_begin_71 ?_
    generalize eL7 : q_u L (o + 61) (x3 : Int32).toNatClampNeg (((I (uo_1 + 1) (x3 : Int32).toNatClampNeg) : Int32).toInt64) = L7
    have H := H L7 eL7
    refine ev_iinc dRun_begin_72 rfl (by decide) ?_
    refine ev_goto 45 dRun_begin_75 (by decide) ?_
    exact ev_sub [(0, .ref o), (1, .ref x1), (2, .int x2), (3, .int ((x3 + Int32.ofInt 1)))] rfl H
def fRun_begin_0 (D : va_G) (cA : FieldType → ClassId) (b : Nat) (E : State → Prop) (o : Nat) (n : Nat) (sh : Nat → qC) (Rf : Nat → Nat → Option Nat) (I : Nat → Nat → Int32) (L : Nat → Nat → Int64) (post : Option Value → qS → Prop) (x1 : Nat) (x2 : Int32) (uo_0 : Nat) (uo_1 : Nat) : Prop :=
  Ev (qGG D cA b E) mRealm_start 1 (0, 0) 0 (lv_args 0 [.ref ((o + 24)), .ref uo_0]) [] (n, sh, Rf, I, L) (fun v τ => ∃ (I3 : Nat → Nat → Int32) (L4 : Nat → Nat → Int64), v = none ∧ τ = (n, sh, Rf, I3, L4) ∧ Ev (qGG D cA b E) mPapers_start 1 (0, 0) 0 (lv_args 0 [.ref ((o + 31)), .ref x1, .int x2]) [] (n, sh, Rf, I3, L4) (fun v τ => ∃ (I7 : Nat → Nat → Int32) (L8 : Nat → Nat → Int64), v = none ∧ τ = (n, sh, Rf, I7, L8) ∧ Ev (qGG D cA b E) mLoads_start 0 (0, 0) 0 (lv_args 0 [.ref ((o + 44))]) [] (n, sh, Rf, I7, L8) (fun v τ => ∃ (I11 : Nat → Nat → Int32) (L12 : Nat → Nat → Int64), v = none ∧ τ = (n, sh, Rf, I11, L12) ∧ Ev (qGG D cA b E) mArrays_fill_d0a16 0 (0, 0) 0 (lv_args 0 [.ref ((o + 65)), .long 0]) [] (n, sh, Rf, I11, L12) (fun v τ => ∃ (I15 : Nat → Nat → Int32) (L16 : Nat → Nat → Int64), v = none ∧ τ = (n, sh, Rf, I15, L16) ∧ Ev (qGG D cA b E) mArrays_fill_53178 0 (0, 0) 0 (lv_args 0 [.ref ((o + 62)), .int ((-1))]) [] (n, sh, Rf, I15, L16) (fun v τ => ∃ (I19 : Nat → Nat → Int32) (L20 : Nat → Nat → Int64), v = none ∧ τ = (n, sh, Rf, I19, L20) ∧ Ev (qGG D cA b E) mRun_begin 2 (0, 0) 45 [(0, .ref o), (1, .ref x1), (2, .int x2), (3, .int 0)] [] (n, sh, Rf, I19, L20) post)))))
set_option maxHeartbeats 4000000 in
set_option maxRecDepth 20000 in
theorem sRun_begin_0 {D : va_G} {cA : FieldType → ClassId} {b : Nat} {E : State → Prop} (o : Nat) (n : Nat) (sh : Nat → qC) (Rf : Nat → Nat → Option Nat) (I : Nat → Nat → Int32) (L : Nat → Nat → Int64) (post : Option Value → qS → Prop) (x1 : Nat) (x2 : Int32) (uo_0 : Nat) (uo_1 : Nat) (hok : q_ok (qGG D cA b E)) (hw : WfRun (qGG D cA b E) n sh Rf o) (hw1 : WfFacts (qGG D cA b E) n sh Rf x1) (huo_0 : Rf o 0 = some uo_0) (hwuo_0 : WfLand (qGG D cA b E) n sh Rf uo_0) (huo_1 : Rf o 1 = some uo_1) (hwuo_1 : WfTrade (qGG D cA b E) n sh Rf uo_1) (H : fRun_begin_0 D cA b E o n sh Rf I L post x1 x2 uo_0 uo_1) : Ev (qGG D cA b E) mRun_begin 2 (0, 0) 0 [(0, .ref o), (1, .ref x1), (2, .int x2)] [] (n, sh, Rf, I, L) post := by
  unfold fRun_begin_0 at H
  refine ev_aload_n dRun_begin_0 rfl ?_
  refine ev_getR hok fk_Run_35 (woRun hw) (fun _ _ _ => rfl) (wrRun_3 hw) dRun_begin_1 ?_
  refine ev_aload_n dRun_begin_4 rfl ?_
  refine ev_getR hok fk_Run_12 (woRun hw) (fun _ _ _ => rfl) huo_0 dRun_begin_5 ?_
  refine ev_callV [.ref uo_0] [] (B' := (0, 0)) (B'' := (0, 0)) hok mmRealm_start mk_Run_158 (ci := 4) rfl rfl (woRealm (wsRun_3 hw)) rfl (Nat.le_of_ble_eq_true rfl) rfl (Nat.le_of_ble_eq_true rfl) dRun_begin_8 rfl (by decide) H (fun v τ p1 => ?_)
  obtain ⟨I3, L4, rfl, rfl, H⟩ := p1
  refine ev_aload_n dRun_begin_11 rfl ?_
  refine ev_getR hok fk_Run_42 (woRun hw) (fun _ _ _ => rfl) (wrRun_4 hw) dRun_begin_12 ?_
  refine ev_aload_n dRun_begin_15 rfl ?_
  refine ev_iload_n dRun_begin_16 rfl ?_
  refine ev_callV [.ref x1, .int x2] [] (B' := (0, 0)) (B'' := (0, 0)) hok mmPapers_start mk_Run_161 (ci := 3) rfl rfl (woPapers (wsRun_4 hw)) rfl (Nat.le_of_ble_eq_true rfl) rfl (Nat.le_of_ble_eq_true rfl) dRun_begin_17 rfl (by decide) H (fun v τ p5 => ?_)
  obtain ⟨I7, L8, rfl, rfl, H⟩ := p5
  refine ev_aload_n dRun_begin_20 rfl ?_
  refine ev_getR hok fk_Run_49 (woRun hw) (fun _ _ _ => rfl) (wrRun_5 hw) dRun_begin_21 ?_
  refine ev_callV [] [] (B' := (0, 0)) (B'' := (0, 0)) hok mmLoads_start mk_Run_163 (ci := 2) rfl rfl (woLoads (wsRun_5 hw)) rfl (Nat.le_of_ble_eq_true rfl) rfl (Nat.le_of_ble_eq_true rfl) dRun_begin_24 rfl (by decide) H (fun v τ p9 => ?_)
  obtain ⟨I11, L12, rfl, rfl, H⟩ := p9
  refine ev_aload_n dRun_begin_27 rfl ?_
  refine ev_getR hok fk_Run_87 (woRun hw) (fun _ _ _ => rfl) (wrRun_14 hw) dRun_begin_28 ?_
  refine ev_lconst 0 dRun_begin_31 (by decide) ?_
  refine ev_callS [.ref ((o + 65)), .long 0] [] (B' := (0, 0)) (B'' := (0, 0)) hok mmArrays_fill_d0a16 mk_Run_165 rfl (Nat.le_of_ble_eq_true rfl) rfl (Nat.le_of_ble_eq_true rfl) dRun_begin_32 rfl (by decide) H (fun v τ p13 => ?_)
  obtain ⟨I15, L16, rfl, rfl, H⟩ := p13
  refine ev_aload_n dRun_begin_35 rfl ?_
  refine ev_getR hok fk_Run_78 (woRun hw) (fun _ _ _ => rfl) (wrRun_11 hw) dRun_begin_36 ?_
  refine ev_iconst (-1) dRun_begin_39 (by decide) ?_
  refine ev_callS [.ref ((o + 62)), .int ((-1))] [] (B' := (0, 0)) (B'' := (0, 0)) hok mmArrays_fill_53178 mk_Run_171 rfl (Nat.le_of_ble_eq_true rfl) rfl (Nat.le_of_ble_eq_true rfl) dRun_begin_40 rfl (by decide) H (fun v τ p17 => ?_)
  obtain ⟨I19, L20, rfl, rfl, H⟩ := p17
  refine ev_iconst (0) dRun_begin_43 (by decide) ?_
  refine ev_istore_n dRun_begin_44 (by decide) ?_
  exact ev_sub [(0, .ref o), (1, .ref x1), (2, .int x2), (3, .int 0)] rfl H
def fRun_classAll_133 (D : va_G) (cA : FieldType → ClassId) (b : Nat) (E : State → Prop) (o : Nat) (n : Nat) (sh : Nat → qC) (Rf : Nat → Nat → Option Nat) (I : Nat → Nat → Int32) (L : Nat → Nat → Int64) (post : Option Value → qS → Prop) (x1 : Int32) (x2 : Int32) (x3 : Int32) : Prop :=
  vp_in x2 1440 ∧ ∀ I1 : Nat → Nat → Int32, q_u I ((o + 31) + 9) (x2 : Int32).toNatClampNeg x3 = I1 → Ev (qGG D cA b E) mRun_classAll 2 (0, 0) 6 [(0, .ref o), (1, .int ((x1 + Int32.ofInt 1)))] [] (n, sh, Rf, I1, L) post
set_option maxHeartbeats 4000000 in
set_option maxRecDepth 20000 in
theorem sRun_classAll_133 {D : va_G} {cA : FieldType → ClassId} {b : Nat} {E : State → Prop} (o : Nat) (n : Nat) (sh : Nat → qC) (Rf : Nat → Nat → Option Nat) (I : Nat → Nat → Int32) (L : Nat → Nat → Int64) (post : Option Value → qS → Prop) (x1 : Int32) (x2 : Int32) (x3 : Int32) (hok : q_ok (qGG D cA b E)) (hw : WfRun (qGG D cA b E) n sh Rf o) (H : fRun_classAll_133 D cA b E o n sh Rf I L post x1 x2 x3) : Ev (qGG D cA b E) mRun_classAll 2 (0, 0) 133 [(0, .ref o), (1, .int x1), (2, .int x2), (3, .int x3)] [] (n, sh, Rf, I, L) post := by
  unfold fRun_classAll_133 at H
  refine ev_aload_n dRun_classAll_133 rfl ?_
  refine ev_getR hok fk_Run_42 (woRun hw) (fun _ _ _ => rfl) (wrRun_4 hw) dRun_classAll_134 ?_
  refine ev_getR hok fk_Run_339 (woPapers (wsRun_4 hw)) (fun _ _ _ => rfl) (wrPapers_8 (wsRun_4 hw)) dRun_classAll_137 ?_
  refine ev_iload_n dRun_classAll_140 rfl ?_
  refine ev_iload_n dRun_classAll_141 rfl ?_
  obtain ⟨h2, H⟩ := H
  refine ev_iast hok (waPapers_8 (wsRun_4 hw)) h2 dRun_classAll_142 ?_
  generalize eI1 : q_u I ((o + 31) + 9) (x2 : Int32).toNatClampNeg x3 = I1
  have H := H I1 eI1
  refine ev_iinc dRun_classAll_143 rfl (by decide) ?_
  refine ev_goto 6 dRun_classAll_146 (by decide) ?_
  exact ev_sub [(0, .ref o), (1, .int ((x1 + Int32.ofInt 1)))] rfl H
def fRun_classAll_98 (D : va_G) (cA : FieldType → ClassId) (b : Nat) (E : State → Prop) (o : Nat) (n : Nat) (sh : Nat → qC) (Rf : Nat → Nat → Option Nat) (I : Nat → Nat → Int32) (L : Nat → Nat → Int64) (post : Option Value → qS → Prop) (x1 : Int32) (x2 : Int32) (x3 : Int32) : Prop :=
  (((I (o + 19) 6) ≤ x3 → fRun_classAll_133 D cA b E o n sh Rf I L post x1 x2 x3) ∧ (¬ (I (o + 19) 6) ≤ x3 → Ev (qGG D cA b E) mReform_tell 1 (0, 0) 0 (lv_args 0 [.ref ((o + 19)), .int ((6 + x3)), .ref ((o + 59))]) [] (n, sh, Rf, I, L) (fun v τ => ∃ (r3 : Int32) (I4 : Nat → Nat → Int32) (L5 : Nat → Nat → Int64), v = some (.int r3) ∧ τ = (n, sh, Rf, I4, L5) ∧ ((¬ r3 = 0 → fRun_classAll_133 D cA b E o n sh Rf I4 L5 post x1 x2 x3) ∧ (r3 = 0 → Ev (qGG D cA b E) mRun_classAll 2 (0, 0) 98 [(0, .ref o), (1, .int x1), (2, .int x2), (3, .int ((x3 + Int32.ofInt 1)))] [] (n, sh, Rf, I4, L5) post)))))
set_option maxHeartbeats 4000000 in
set_option maxRecDepth 20000 in
theorem sRun_classAll_98 {D : va_G} {cA : FieldType → ClassId} {b : Nat} {E : State → Prop} (o : Nat) (n : Nat) (sh : Nat → qC) (Rf : Nat → Nat → Option Nat) (I : Nat → Nat → Int32) (L : Nat → Nat → Int64) (post : Option Value → qS → Prop) (x1 : Int32) (x2 : Int32) (x3 : Int32) (hok : q_ok (qGG D cA b E)) (hw : WfRun (qGG D cA b E) n sh Rf o) (H : fRun_classAll_98 D cA b E o n sh Rf I L post x1 x2 x3) : Ev (qGG D cA b E) mRun_classAll 2 (0, 0) 98 [(0, .ref o), (1, .int x1), (2, .int x2), (3, .int x3)] [] (n, sh, Rf, I, L) post := by
  unfold fRun_classAll_98 at H
  refine ev_iload_n dRun_classAll_98 rfl ?_
  refine ev_aload_n dRun_classAll_99 rfl ?_
  refine ev_getR hok fk_Run_28 (woRun hw) (fun _ _ _ => rfl) (wrRun_2 hw) dRun_classAll_100 ?_
  refine ev_getI hok fk_Run_336 (woReform (wsRun_2 hw)) (fun _ _ _ => rfl) dRun_classAll_103 ?_
  refine ev_icmp_ge 133 dRun_classAll_106 (by decide) (fun c1 => ?_) (fun c1 => ?_)
  · have H := H.1 c1
    exact ev_sub [(0, .ref o), (1, .int x1), (2, .int x2), (3, .int x3)] rfl (sRun_classAll_133 o n sh Rf I L post x1 x2 x3 hok hw H)
  · have H := H.2 c1
    refine ev_aload_n dRun_classAll_109 rfl ?_
    refine ev_getR hok fk_Run_28 (woRun hw) (fun _ _ _ => rfl) (wrRun_2 hw) dRun_classAll_110 ?_
    refine ev_bipush (6) dRun_classAll_113 (by decide) ?_
    refine ev_iload_n dRun_classAll_115 rfl ?_
    refine ev_iadd dRun_classAll_116 ?_
    refine ev_aload_n dRun_classAll_117 rfl ?_
    refine ev_getR hok fk_Run_67 (woRun hw) (fun _ _ _ => rfl) (wrRun_8 hw) dRun_classAll_118 ?_
    refine ev_callV [.int ((6 + x3)), .ref ((o + 59))] [] (B' := (0, 0)) (B'' := (0, 0)) hok mmReform_tell mk_Run_241 (ci := 6) rfl rfl (woReform (wsRun_2 hw)) rfl (Nat.le_of_ble_eq_true rfl) rfl (Nat.le_of_ble_eq_true rfl) dRun_classAll_121 rfl (by decide) H (fun v τ p2 => ?_)
    obtain ⟨r3, I4, L5, rfl, rfl, H⟩ := p2
    refine ev_if_ne 133 dRun_classAll_124 (by decide) (fun c6 => ?_) (fun c6 => ?_)
    · have H := H.1 c6
      exact ev_sub [(0, .ref o), (1, .int x1), (2, .int x2), (3, .int x3)] rfl (sRun_classAll_133 o n sh Rf I4 L5 post x1 x2 x3 hok hw H)
    · have H := H.2 c6
      refine ev_iinc dRun_classAll_127 rfl (by decide) ?_
      refine ev_goto 98 dRun_classAll_130 (by decide) ?_
      exact ev_sub [(0, .ref o), (1, .int x1), (2, .int x2), (3, .int ((x3 + Int32.ofInt 1)))] rfl H
def fRun_classAll_6 (D : va_G) (cA : FieldType → ClassId) (b : Nat) (E : State → Prop) (o : Nat) (n : Nat) (sh : Nat → qC) (Rf : Nat → Nat → Option Nat) (I : Nat → Nat → Int32) (L : Nat → Nat → Int64) (post : Option Value → qS → Prop) (x1 : Int32) : Prop :=
  (((I (o + 31) 13) ≤ x1 → post none (n, sh, Rf, I, L)) ∧ (¬ (I (o + 31) 13) ≤ x1 → vp_in x1 1440 ∧ vp_in (I ((o + 31) + 11) (x1 : Int32).toNatClampNeg) 1440 ∧ ∀ I4 : Nat → Nat → Int32, q_u I (o + 59) 28 ((I o 17) - (I ((o + 31) + 4) ((I ((o + 31) + 11) (x1 : Int32).toNatClampNeg) : Int32).toNatClampNeg)) = I4 → vp_in (I ((o + 31) + 11) (x1 : Int32).toNatClampNeg) 1440 ∧ ∀ I6 : Nat → Nat → Int32, q_u I4 (o + 59) 29 (I4 ((o + 31) + 3) ((I ((o + 31) + 11) (x1 : Int32).toNatClampNeg) : Int32).toNatClampNeg) = I6 → vp_in (I ((o + 31) + 11) (x1 : Int32).toNatClampNeg) 1440 ∧ ∀ I8 : Nat → Nat → Int32, q_u I6 (o + 59) 30 (I6 ((o + 31) + 6) ((I ((o + 31) + 11) (x1 : Int32).toNatClampNeg) : Int32).toNatClampNeg) = I8 → vp_in (I ((o + 31) + 11) (x1 : Int32).toNatClampNeg) 1440 ∧ ∀ I10 : Nat → Nat → Int32, q_u I8 (o + 59) 26 (I8 ((o + 31) + 5) ((I ((o + 31) + 11) (x1 : Int32).toNatClampNeg) : Int32).toNatClampNeg) = I10 → Ev (qGG D cA b E) mRun_classAll 2 (0, 0) 98 [(0, .ref o), (1, .int x1), (2, .int ((I ((o + 31) + 11) (x1 : Int32).toNatClampNeg))), (3, .int 0)] [] (n, sh, Rf, I10, L) post))
set_option maxHeartbeats 4000000 in
set_option maxRecDepth 20000 in
theorem sRun_classAll_6 {D : va_G} {cA : FieldType → ClassId} {b : Nat} {E : State → Prop} (o : Nat) (n : Nat) (sh : Nat → qC) (Rf : Nat → Nat → Option Nat) (I : Nat → Nat → Int32) (L : Nat → Nat → Int64) (post : Option Value → qS → Prop) (x1 : Int32) (hok : q_ok (qGG D cA b E)) (hw : WfRun (qGG D cA b E) n sh Rf o) (H : fRun_classAll_6 D cA b E o n sh Rf I L post x1) : Ev (qGG D cA b E) mRun_classAll 2 (0, 0) 6 [(0, .ref o), (1, .int x1)] [] (n, sh, Rf, I, L) post := by
  unfold fRun_classAll_6 at H
  refine ev_iload_n dRun_classAll_6 rfl ?_
  refine ev_aload_n dRun_classAll_7 rfl ?_
  refine ev_getR hok fk_Run_42 (woRun hw) (fun _ _ _ => rfl) (wrRun_4 hw) dRun_classAll_8 ?_
  refine ev_getI hok fk_Run_203 (woPapers (wsRun_4 hw)) (fun _ _ _ => rfl) dRun_classAll_11 ?_
  refine ev_icmp_ge 149 dRun_classAll_14 (by decide) (fun c1 => ?_) (fun c1 => ?_)
  · have H := H.1 c1
    exact ev_vret rfl dRun_classAll_149 H
  · have H := H.2 c1
    refine ev_aload_n dRun_classAll_17 rfl ?_
    refine ev_getR hok fk_Run_42 (woRun hw) (fun _ _ _ => rfl) (wrRun_4 hw) dRun_classAll_18 ?_
    refine ev_getR hok fk_Run_323 (woPapers (wsRun_4 hw)) (fun _ _ _ => rfl) (wrPapers_10 (wsRun_4 hw)) dRun_classAll_21 ?_
    refine ev_iload_n dRun_classAll_24 rfl ?_
    obtain ⟨h2, H⟩ := H
    refine ev_iald hok (waPapers_10 (wsRun_4 hw)) h2 dRun_classAll_25 ?_
    refine ev_istore_n dRun_classAll_26 (by decide) ?_
    refine ev_aload_n dRun_classAll_27 rfl ?_
    refine ev_getR hok fk_Run_67 (woRun hw) (fun _ _ _ => rfl) (wrRun_8 hw) dRun_classAll_28 ?_
    refine ev_bipush (28) dRun_classAll_31 (by decide) ?_
    refine ev_aload_n dRun_classAll_33 rfl ?_
    refine ev_getI hok fk_Run_98 (woRun hw) (fun _ _ _ => rfl) dRun_classAll_34 ?_
    refine ev_aload_n dRun_classAll_37 rfl ?_
    refine ev_getR hok fk_Run_42 (woRun hw) (fun _ _ _ => rfl) (wrRun_4 hw) dRun_classAll_38 ?_
    refine ev_getR hok fk_Run_326 (woPapers (wsRun_4 hw)) (fun _ _ _ => rfl) (wrPapers_3 (wsRun_4 hw)) dRun_classAll_41 ?_
    refine ev_iload_n dRun_classAll_44 rfl ?_
    obtain ⟨h3, H⟩ := H
    refine ev_iald hok (waPapers_3 (wsRun_4 hw)) h3 dRun_classAll_45 ?_
    refine ev_isub dRun_classAll_46 ?_
    refine ev_iast hok (waRun_8 hw) (by unfold vp_in; decide) dRun_classAll_47 ?_
    rw [show (28 : Int32).toNatClampNeg = 28 from rfl]
    generalize eI4 : q_u I (o + 59) 28 ((I o 17) - (I ((o + 31) + 4) ((I ((o + 31) + 11) (x1 : Int32).toNatClampNeg) : Int32).toNatClampNeg)) = I4
    have H := H I4 eI4
    refine ev_aload_n dRun_classAll_48 rfl ?_
    refine ev_getR hok fk_Run_67 (woRun hw) (fun _ _ _ => rfl) (wrRun_8 hw) dRun_classAll_49 ?_
    refine ev_bipush (29) dRun_classAll_52 (by decide) ?_
    refine ev_aload_n dRun_classAll_54 rfl ?_
    refine ev_getR hok fk_Run_42 (woRun hw) (fun _ _ _ => rfl) (wrRun_4 hw) dRun_classAll_55 ?_
    refine ev_getR hok fk_Run_329 (woPapers (wsRun_4 hw)) (fun _ _ _ => rfl) (wrPapers_2 (wsRun_4 hw)) dRun_classAll_58 ?_
    refine ev_iload_n dRun_classAll_61 rfl ?_
    obtain ⟨h5, H⟩ := H
    refine ev_iald hok (waPapers_2 (wsRun_4 hw)) h5 dRun_classAll_62 ?_
    refine ev_iast hok (waRun_8 hw) (by unfold vp_in; decide) dRun_classAll_63 ?_
    rw [show (29 : Int32).toNatClampNeg = 29 from rfl]
    generalize eI6 : q_u I4 (o + 59) 29 (I4 ((o + 31) + 3) ((I ((o + 31) + 11) (x1 : Int32).toNatClampNeg) : Int32).toNatClampNeg) = I6
    have H := H I6 eI6
    refine ev_aload_n dRun_classAll_64 rfl ?_
    refine ev_getR hok fk_Run_67 (woRun hw) (fun _ _ _ => rfl) (wrRun_8 hw) dRun_classAll_65 ?_
    refine ev_bipush (30) dRun_classAll_68 (by decide) ?_
    refine ev_aload_n dRun_classAll_70 rfl ?_
    refine ev_getR hok fk_Run_42 (woRun hw) (fun _ _ _ => rfl) (wrRun_4 hw) dRun_classAll_71 ?_
    refine ev_getR hok fk_Run_332 (woPapers (wsRun_4 hw)) (fun _ _ _ => rfl) (wrPapers_5 (wsRun_4 hw)) dRun_classAll_74 ?_
    refine ev_iload_n dRun_classAll_77 rfl ?_
    obtain ⟨h7, H⟩ := H
    refine ev_iald hok (waPapers_5 (wsRun_4 hw)) h7 dRun_classAll_78 ?_
    refine ev_iast hok (waRun_8 hw) (by unfold vp_in; decide) dRun_classAll_79 ?_
    rw [show (30 : Int32).toNatClampNeg = 30 from rfl]
    generalize eI8 : q_u I6 (o + 59) 30 (I6 ((o + 31) + 6) ((I ((o + 31) + 11) (x1 : Int32).toNatClampNeg) : Int32).toNatClampNeg) = I8
    have H := H I8 eI8
    refine ev_aload_n dRun_classAll_80 rfl ?_
    refine ev_getR hok fk_Run_67 (woRun hw) (fun _ _ _ => rfl) (wrRun_8 hw) dRun_classAll_81 ?_
    refine ev_bipush (26) dRun_classAll_84 (by decide) ?_
    refine ev_aload_n dRun_classAll_86 rfl ?_
    refine ev_getR hok fk_Run_42 (woRun hw) (fun _ _ _ => rfl) (wrRun_4 hw) dRun_classAll_87 ?_
    refine ev_getR hok fk_Run_335 (woPapers (wsRun_4 hw)) (fun _ _ _ => rfl) (wrPapers_4 (wsRun_4 hw)) dRun_classAll_90 ?_
    refine ev_iload_n dRun_classAll_93 rfl ?_
    obtain ⟨h9, H⟩ := H
    refine ev_iald hok (waPapers_4 (wsRun_4 hw)) h9 dRun_classAll_94 ?_
    refine ev_iast hok (waRun_8 hw) (by unfold vp_in; decide) dRun_classAll_95 ?_
    rw [show (26 : Int32).toNatClampNeg = 26 from rfl]
    generalize eI10 : q_u I8 (o + 59) 26 (I8 ((o + 31) + 5) ((I ((o + 31) + 11) (x1 : Int32).toNatClampNeg) : Int32).toNatClampNeg) = I10
    have H := H I10 eI10
    refine ev_iconst (0) dRun_classAll_96 (by decide) ?_
    refine ev_istore_n dRun_classAll_97 (by decide) ?_
    exact ev_sub [(0, .ref o), (1, .int x1), (2, .int ((I ((o + 31) + 11) (x1 : Int32).toNatClampNeg))), (3, .int 0)] rfl H
def fRun_classAll_0 (D : va_G) (cA : FieldType → ClassId) (b : Nat) (E : State → Prop) (o : Nat) (n : Nat) (sh : Nat → qC) (Rf : Nat → Nat → Option Nat) (I : Nat → Nat → Int32) (L : Nat → Nat → Int64) (post : Option Value → qS → Prop)  : Prop :=
  Ev (qGG D cA b E) mRun_askCommon 1 (0, 0) 0 (lv_args 0 [.ref o]) [] (n, sh, Rf, I, L) (fun v τ => ∃ (I3 : Nat → Nat → Int32) (L4 : Nat → Nat → Int64), v = none ∧ τ = (n, sh, Rf, I3, L4) ∧ Ev (qGG D cA b E) mRun_classAll 2 (0, 0) 6 [(0, .ref o), (1, .int 0)] [] (n, sh, Rf, I3, L4) post)
set_option maxHeartbeats 4000000 in
set_option maxRecDepth 20000 in
theorem sRun_classAll_0 {D : va_G} {cA : FieldType → ClassId} {b : Nat} {E : State → Prop} (o : Nat) (n : Nat) (sh : Nat → qC) (Rf : Nat → Nat → Option Nat) (I : Nat → Nat → Int32) (L : Nat → Nat → Int64) (post : Option Value → qS → Prop)  (hok : q_ok (qGG D cA b E)) (hw : WfRun (qGG D cA b E) n sh Rf o) (H : fRun_classAll_0 D cA b E o n sh Rf I L post ) : Ev (qGG D cA b E) mRun_classAll 2 (0, 0) 0 [(0, .ref o)] [] (n, sh, Rf, I, L) post := by
  unfold fRun_classAll_0 at H
  refine ev_aload_n dRun_classAll_0 rfl ?_
  refine ev_callV [] [] (B' := (0, 0)) (B'' := (0, 0)) hok mmRun_askCommon mk_Run_238 (ci := 7) rfl rfl (woRun hw) rfl (Nat.le_of_ble_eq_true rfl) rfl (Nat.le_of_ble_eq_true rfl) dRun_classAll_1 rfl (by decide) H (fun v τ p1 => ?_)
  obtain ⟨I3, L4, rfl, rfl, H⟩ := p1
  refine ev_iconst (0) dRun_classAll_4 (by decide) ?_
  refine ev_istore_n dRun_classAll_5 (by decide) ?_
  exact ev_sub [(0, .ref o), (1, .int 0)] rfl H
def fRun_makeSalt_2 (D : va_G) (cA : FieldType → ClassId) (b : Nat) (E : State → Prop) (o : Nat) (n : Nat) (sh : Nat → qC) (Rf : Nat → Nat → Option Nat) (I : Nat → Nat → Int32) (L : Nat → Nat → Int64) (post : Option Value → qS → Prop) (x1 : Nat) (x2 : Int32) (x3 : Int32) (uo_0 : Nat) : Prop :=
  (((I uo_0 2) ≤ x3 → post none (n, sh, Rf, I, L)) ∧ (¬ (I uo_0 2) ≤ x3 → vp_in ((x3 * 12) + ((I o 17) - (I o 17) / 12 * 12)) 36 ∧ vp_in x3 3 ∧ Ev (qGG D cA b E) mFacts_saltByWeather 1 (0, 0) 0 (lv_args 0 [.ref x1, .int ((I (uo_0 + 7) (((x3 * 12) + ((I o 17) - (I o 17) / 12 * 12)) : Int32).toNatClampNeg)), .int x3, .int ((I o 17)), .int x2]) [] (n, sh, Rf, I, L) (fun v τ => ∃ (r5 : Int32) (I6 : Nat → Nat → Int32) (L7 : Nat → Nat → Int64), v = some (.int r5) ∧ τ = (n, sh, Rf, I6, L7) ∧ vp_in x3 3 ∧ ∀ I8 : Nat → Nat → Int32, q_u I6 ((o + 24) + 3) (x3 : Int32).toNatClampNeg ((I ((o + 24) + 3) (x3 : Int32).toNatClampNeg) + r5) = I8 → Ev (qGG D cA b E) mRun_makeSalt 2 (0, 0) 2 [(0, .ref o), (1, .ref x1), (2, .int x2), (3, .int ((x3 + Int32.ofInt 1)))] [] (n, sh, Rf, I8, L7) post)))
set_option maxHeartbeats 4000000 in
set_option maxRecDepth 20000 in
theorem sRun_makeSalt_2 {D : va_G} {cA : FieldType → ClassId} {b : Nat} {E : State → Prop} (o : Nat) (n : Nat) (sh : Nat → qC) (Rf : Nat → Nat → Option Nat) (I : Nat → Nat → Int32) (L : Nat → Nat → Int64) (post : Option Value → qS → Prop) (x1 : Nat) (x2 : Int32) (x3 : Int32) (uo_0 : Nat) (hok : q_ok (qGG D cA b E)) (hw : WfRun (qGG D cA b E) n sh Rf o) (hw1 : WfFacts (qGG D cA b E) n sh Rf x1) (huo_0 : Rf o 0 = some uo_0) (hwuo_0 : WfLand (qGG D cA b E) n sh Rf uo_0) (H : fRun_makeSalt_2 D cA b E o n sh Rf I L post x1 x2 x3 uo_0) : Ev (qGG D cA b E) mRun_makeSalt 2 (0, 0) 2 [(0, .ref o), (1, .ref x1), (2, .int x2), (3, .int x3)] [] (n, sh, Rf, I, L) post := by
  unfold fRun_makeSalt_2 at H
  refine ev_iload_n dRun_makeSalt_2 rfl ?_
  refine ev_aload_n dRun_makeSalt_3 rfl ?_
  refine ev_getR hok fk_Run_12 (woRun hw) (fun _ _ _ => rfl) huo_0 dRun_makeSalt_4 ?_
  refine ev_getI hok fk_Run_225 (woLand hwuo_0) (fun _ _ _ => rfl) dRun_makeSalt_7 ?_
  refine ev_icmp_ge 65 dRun_makeSalt_10 (by decide) (fun c1 => ?_) (fun c1 => ?_)
  · have H := H.1 c1
    exact ev_vret rfl dRun_makeSalt_65 H
  · have H := H.2 c1
    refine ev_aload_n dRun_makeSalt_13 rfl ?_
    refine ev_getR hok fk_Run_12 (woRun hw) (fun _ _ _ => rfl) huo_0 dRun_makeSalt_14 ?_
    refine ev_getR hok fk_Run_228 (woLand hwuo_0) (fun _ _ _ => rfl) (wrLand_11 hwuo_0) dRun_makeSalt_17 ?_
    refine ev_iload_n dRun_makeSalt_20 rfl ?_
    refine ev_bipush (12) dRun_makeSalt_21 (by decide) ?_
    refine ev_imul dRun_makeSalt_23 ?_
    refine ev_aload_n dRun_makeSalt_24 rfl ?_
    refine ev_getI hok fk_Run_98 (woRun hw) (fun _ _ _ => rfl) dRun_makeSalt_25 ?_
    refine ev_bipush (12) dRun_makeSalt_28 (by decide) ?_
    refine ev_irem dRun_makeSalt_30 (by decide) ?_
    refine ev_iadd dRun_makeSalt_31 ?_
    obtain ⟨h2, H⟩ := H
    refine ev_iald hok (waLand_11 hwuo_0) h2 dRun_makeSalt_32 ?_
    refine ev_istore dRun_makeSalt_33 (by decide) ?_
    refine ev_aload_n dRun_makeSalt_35 rfl ?_
    refine ev_getR hok fk_Run_35 (woRun hw) (fun _ _ _ => rfl) (wrRun_3 hw) dRun_makeSalt_36 ?_
    refine ev_getR hok fk_Run_231 (woRealm (wsRun_3 hw)) (fun _ _ _ => rfl) (wrRealm_2 (wsRun_3 hw)) dRun_makeSalt_39 ?_
    refine ev_iload_n dRun_makeSalt_42 rfl ?_
    refine ev_dup2_11 dRun_makeSalt_43 rfl rfl ?_
    obtain ⟨h3, H⟩ := H
    refine ev_iald hok (waRealm_2 (wsRun_3 hw)) h3 dRun_makeSalt_44 ?_
    refine ev_aload_n dRun_makeSalt_45 rfl ?_
    refine ev_iload dRun_makeSalt_46 rfl ?_
    refine ev_iload_n dRun_makeSalt_48 rfl ?_
    refine ev_aload_n dRun_makeSalt_49 rfl ?_
    refine ev_getI hok fk_Run_98 (woRun hw) (fun _ _ _ => rfl) dRun_makeSalt_50 ?_
    refine ev_iload_n dRun_makeSalt_53 rfl ?_
    refine ev_callV [.int ((I (uo_0 + 7) (((x3 * 12) + ((I o 17) - (I o 17) / 12 * 12)) : Int32).toNatClampNeg)), .int x3, .int ((I o 17)), .int x2] [.int ((I ((o + 24) + 3) (x3 : Int32).toNatClampNeg)), .int x3, .ref (((o + 24) + 3))] (B' := (0, 0)) (B'' := (0, 0)) hok mmFacts_saltByWeather mk_Run_234 (ci := 0) rfl rfl (woFacts hw1) rfl (Nat.le_of_ble_eq_true rfl) rfl (Nat.le_of_ble_eq_true rfl) dRun_makeSalt_54 rfl (by decide) H (fun v τ p4 => ?_)
    obtain ⟨r5, I6, L7, rfl, rfl, H⟩ := p4
    refine ev_iadd dRun_makeSalt_57 ?_
    obtain ⟨h9, H⟩ := H
    refine ev_iast hok (waRealm_2 (wsRun_3 hw)) h9 dRun_makeSalt_58 ?_
    generalize eI8 : q_u I6 ((o + 24) + 3) (x3 : Int32).toNatClampNeg ((I ((o + 24) + 3) (x3 : Int32).toNatClampNeg) + r5) = I8
    have H := H I8 eI8
    refine ev_iinc dRun_makeSalt_59 rfl (by decide) ?_
    refine ev_goto 2 dRun_makeSalt_62 (by decide) ?_
    exact ev_sub [(0, .ref o), (1, .ref x1), (2, .int x2), (3, .int ((x3 + Int32.ofInt 1)))] rfl H
def fRun_makeSalt_0 (D : va_G) (cA : FieldType → ClassId) (b : Nat) (E : State → Prop) (o : Nat) (n : Nat) (sh : Nat → qC) (Rf : Nat → Nat → Option Nat) (I : Nat → Nat → Int32) (L : Nat → Nat → Int64) (post : Option Value → qS → Prop) (x1 : Nat) (x2 : Int32) (uo_0 : Nat) : Prop :=
  Ev (qGG D cA b E) mRun_makeSalt 2 (0, 0) 2 [(0, .ref o), (1, .ref x1), (2, .int x2), (3, .int 0)] [] (n, sh, Rf, I, L) post
set_option maxHeartbeats 4000000 in
set_option maxRecDepth 20000 in
theorem sRun_makeSalt_0 {D : va_G} {cA : FieldType → ClassId} {b : Nat} {E : State → Prop} (o : Nat) (n : Nat) (sh : Nat → qC) (Rf : Nat → Nat → Option Nat) (I : Nat → Nat → Int32) (L : Nat → Nat → Int64) (post : Option Value → qS → Prop) (x1 : Nat) (x2 : Int32) (uo_0 : Nat) (hok : q_ok (qGG D cA b E)) (hw : WfRun (qGG D cA b E) n sh Rf o) (hw1 : WfFacts (qGG D cA b E) n sh Rf x1) (huo_0 : Rf o 0 = some uo_0) (hwuo_0 : WfLand (qGG D cA b E) n sh Rf uo_0) (H : fRun_makeSalt_0 D cA b E o n sh Rf I L post x1 x2 uo_0) : Ev (qGG D cA b E) mRun_makeSalt 2 (0, 0) 0 [(0, .ref o), (1, .ref x1), (2, .int x2)] [] (n, sh, Rf, I, L) post := by
  unfold fRun_makeSalt_0 at H
  refine ev_iconst (0) dRun_makeSalt_0 (by decide) ?_
  refine ev_istore_n dRun_makeSalt_1 (by decide) ?_
  exact ev_sub [(0, .ref o), (1, .ref x1), (2, .int x2), (3, .int 0)] rfl H
def fRun_rateAt_56 (D : va_G) (cA : FieldType → ClassId) (b : Nat) (E : State → Prop) (o : Nat) (n : Nat) (sh : Nat → qC) (Rf : Nat → Nat → Option Nat) (I : Nat → Nat → Int32) (L : Nat → Nat → Int64) (post : Option Value → qS → Prop) (x1 : Int32) (x2 : Int32) (x3 : Int32) (z0 : Int32) (z1 : Int32) (uo_0 : Nat) : Prop :=
  vp_in z1 64 ∧ ∀ I1 : Nat → Nat → Int32, q_u I (o + 59) (z1 : Int32).toNatClampNeg z0 = I1 → ∀ I3 : Nat → Nat → Int32, q_u I1 (o + 59) 26 x2 = I3 → Ev (qGG D cA b E) mReform_tell 1 (0, 0) 0 (lv_args 0 [.ref ((o + 19)), .int 0, .ref ((o + 59))]) [] (n, sh, Rf, I3, L) (fun v τ => ∃ (r5 : Int32) (I6 : Nat → Nat → Int32) (L7 : Nat → Nat → Int64), v = some (.int r5) ∧ τ = (n, sh, Rf, I6, L7) ∧ ∀ y8 : Int32, ((if r5 < 9999 then r5 else 9999) : Int32) = y8 → ∀ y9 : Int32, ((if 0 < y8 then y8 else 0) : Int32) = y9 → post (some (.int y9)) (n, sh, Rf, I6, L7))
set_option maxHeartbeats 4000000 in
set_option maxRecDepth 20000 in
theorem sRun_rateAt_56 {D : va_G} {cA : FieldType → ClassId} {b : Nat} {E : State → Prop} (o : Nat) (n : Nat) (sh : Nat → qC) (Rf : Nat → Nat → Option Nat) (I : Nat → Nat → Int32) (L : Nat → Nat → Int64) (post : Option Value → qS → Prop) (x1 : Int32) (x2 : Int32) (x3 : Int32) (z0 : Int32) (z1 : Int32) (uo_0 : Nat) (hok : q_ok (qGG D cA b E)) (hw : WfRun (qGG D cA b E) n sh Rf o) (huo_0 : Rf o 0 = some uo_0) (hwuo_0 : WfLand (qGG D cA b E) n sh Rf uo_0) (H : fRun_rateAt_56 D cA b E o n sh Rf I L post x1 x2 x3 z0 z1 uo_0) : Ev (qGG D cA b E) mRun_rateAt 2 (0, 0) 56 [(0, .ref o), (1, .int x1), (2, .int x2), (3, .int x3)] [.int z0, .int z1, .ref ((o + 59))] (n, sh, Rf, I, L) post := by
  unfold fRun_rateAt_56 at H
  obtain ⟨h2, H⟩ := H
  refine ev_iast hok (waRun_8 hw) h2 dRun_rateAt_56 ?_
  generalize eI1 : q_u I (o + 59) (z1 : Int32).toNatClampNeg z0 = I1
  have H := H I1 eI1
  refine ev_aload_n dRun_rateAt_57 rfl ?_
  refine ev_getR hok fk_Run_67 (woRun hw) (fun _ _ _ => rfl) (wrRun_8 hw) dRun_rateAt_58 ?_
  refine ev_bipush (26) dRun_rateAt_61 (by decide) ?_
  refine ev_iload_n dRun_rateAt_63 rfl ?_
  refine ev_iast hok (waRun_8 hw) (by unfold vp_in; decide) dRun_rateAt_64 ?_
  rw [show (26 : Int32).toNatClampNeg = 26 from rfl]
  generalize eI3 : q_u I1 (o + 59) 26 x2 = I3
  have H := H I3 eI3
  refine ev_iconst (0) dRun_rateAt_65 (by decide) ?_
  refine ev_sipush (9999) dRun_rateAt_66 (by decide) ?_
  refine ev_aload_n dRun_rateAt_69 rfl ?_
  refine ev_getR hok fk_Run_28 (woRun hw) (fun _ _ _ => rfl) (wrRun_2 hw) dRun_rateAt_70 ?_
  refine ev_iconst (0) dRun_rateAt_73 (by decide) ?_
  refine ev_aload_n dRun_rateAt_74 rfl ?_
  refine ev_getR hok fk_Run_67 (woRun hw) (fun _ _ _ => rfl) (wrRun_8 hw) dRun_rateAt_75 ?_
  refine ev_callV [.int 0, .ref ((o + 59))] [.int 9999, .int 0] (B' := (0, 0)) (B'' := (0, 0)) hok mmReform_tell mk_Run_241 (ci := 6) rfl rfl (woReform (wsRun_2 hw)) rfl (Nat.le_of_ble_eq_true rfl) rfl (Nat.le_of_ble_eq_true rfl) dRun_rateAt_78 rfl (by decide) H (fun v τ p4 => ?_)
  obtain ⟨r5, I6, L7, rfl, rfl, H⟩ := p4
  refine ev_mmin (by decide) (q_t5 201 (by decide +kernel) rfl) (q_t4 44 (by decide +kernel) rfl) (q_t1 19 (by decide +kernel) rfl) (q_t4 45 rfl rfl) (Nat.le_of_ble_eq_true rfl) dRun_rateAt_81 ?_
  generalize ey8 : ((if r5 < 9999 then r5 else 9999) : Int32) = y8
  have H := H y8 ey8
  refine ev_mmax (by decide) (q_t5 202 (by decide +kernel) rfl) (q_t4 41 (by decide +kernel) rfl) (q_t1 19 (by decide +kernel) rfl) (q_t4 42 rfl rfl) (Nat.le_of_ble_eq_true rfl) dRun_rateAt_84 ?_
  generalize ey9 : ((if 0 < y8 then y8 else 0) : Int32) = y9
  have H := H y9 ey9
  exact ev_iret rfl dRun_rateAt_87 H
def fRun_rateAt_0 (D : va_G) (cA : FieldType → ClassId) (b : Nat) (E : State → Prop) (o : Nat) (n : Nat) (sh : Nat → qC) (Rf : Nat → Nat → Option Nat) (I : Nat → Nat → Int32) (L : Nat → Nat → Int64) (post : Option Value → qS → Prop) (x1 : Int32) (x2 : Int32) (uo_0 : Nat) : Prop :=
  vp_in x1 3 ∧ Ev (qGG D cA b E) mRun_askCommon 1 (0, 0) 0 (lv_args 0 [.ref o]) [] (n, sh, Rf, I, L) (fun v τ => ∃ (I4 : Nat → Nat → Int32) (L5 : Nat → Nat → Int64), v = none ∧ τ = (n, sh, Rf, I4, L5) ∧ vp_in x1 3 ∧ ∀ I7 : Nat → Nat → Int32, q_u I4 (o + 59) 4 (I4 ((o + 24) + 1) (x1 : Int32).toNatClampNeg) = I7 → ((¬ (I (uo_0 + 4) (x1 : Int32).toNatClampNeg) = 0 → vp_in x1 3 ∧ (¬ ((I (uo_0 + 4) (x1 : Int32).toNatClampNeg) : Int32) = 0) ∧ fRun_rateAt_56 D cA b E o n sh Rf I7 L5 post x1 x2 (I (uo_0 + 4) (x1 : Int32).toNatClampNeg) ((I7 ((o + 24) + 1) (x1 : Int32).toNatClampNeg) / (I (uo_0 + 4) (x1 : Int32).toNatClampNeg)) 25 uo_0) ∧ ((I (uo_0 + 4) (x1 : Int32).toNatClampNeg) = 0 → fRun_rateAt_56 D cA b E o n sh Rf I7 L5 post x1 x2 (I (uo_0 + 4) (x1 : Int32).toNatClampNeg) 9999 25 uo_0)))
set_option maxHeartbeats 4000000 in
set_option maxRecDepth 20000 in
theorem sRun_rateAt_0 {D : va_G} {cA : FieldType → ClassId} {b : Nat} {E : State → Prop} (o : Nat) (n : Nat) (sh : Nat → qC) (Rf : Nat → Nat → Option Nat) (I : Nat → Nat → Int32) (L : Nat → Nat → Int64) (post : Option Value → qS → Prop) (x1 : Int32) (x2 : Int32) (uo_0 : Nat) (hok : q_ok (qGG D cA b E)) (hw : WfRun (qGG D cA b E) n sh Rf o) (huo_0 : Rf o 0 = some uo_0) (hwuo_0 : WfLand (qGG D cA b E) n sh Rf uo_0) (H : fRun_rateAt_0 D cA b E o n sh Rf I L post x1 x2 uo_0) : Ev (qGG D cA b E) mRun_rateAt 2 (0, 0) 0 [(0, .ref o), (1, .int x1), (2, .int x2)] [] (n, sh, Rf, I, L) post := by
  unfold fRun_rateAt_0 at H
  refine ev_aload_n dRun_rateAt_0 rfl ?_
  refine ev_getR hok fk_Run_12 (woRun hw) (fun _ _ _ => rfl) huo_0 dRun_rateAt_1 ?_
  refine ev_getR hok fk_Run_261 (woLand hwuo_0) (fun _ _ _ => rfl) (wrLand_8 hwuo_0) dRun_rateAt_4 ?_
  refine ev_iload_n dRun_rateAt_7 rfl ?_
  obtain ⟨h1, H⟩ := H
  refine ev_iald hok (waLand_8 hwuo_0) h1 dRun_rateAt_8 ?_
  refine ev_istore_n dRun_rateAt_9 (by decide) ?_
  refine ev_aload_n dRun_rateAt_10 rfl ?_
  refine ev_callV [] [] (B' := (0, 0)) (B'' := (0, 0)) hok mmRun_askCommon mk_Run_238 (ci := 7) rfl rfl (woRun hw) rfl (Nat.le_of_ble_eq_true rfl) rfl (Nat.le_of_ble_eq_true rfl) dRun_rateAt_11 rfl (by decide) H (fun v τ p2 => ?_)
  obtain ⟨I4, L5, rfl, rfl, H⟩ := p2
  refine ev_aload_n dRun_rateAt_14 rfl ?_
  refine ev_getR hok fk_Run_67 (woRun hw) (fun _ _ _ => rfl) (wrRun_8 hw) dRun_rateAt_15 ?_
  refine ev_iconst (4) dRun_rateAt_18 (by decide) ?_
  refine ev_aload_n dRun_rateAt_19 rfl ?_
  refine ev_getR hok fk_Run_35 (woRun hw) (fun _ _ _ => rfl) (wrRun_3 hw) dRun_rateAt_20 ?_
  refine ev_getR hok fk_Run_264 (woRealm (wsRun_3 hw)) (fun _ _ _ => rfl) (wrRealm_0 (wsRun_3 hw)) dRun_rateAt_23 ?_
  refine ev_iload_n dRun_rateAt_26 rfl ?_
  obtain ⟨h6, H⟩ := H
  refine ev_iald hok (waRealm_0 (wsRun_3 hw)) h6 dRun_rateAt_27 ?_
  refine ev_iast hok (waRun_8 hw) (by unfold vp_in; decide) dRun_rateAt_28 ?_
  rw [show (4 : Int32).toNatClampNeg = 4 from rfl]
  generalize eI7 : q_u I4 (o + 59) 4 (I4 ((o + 24) + 1) (x1 : Int32).toNatClampNeg) = I7
  have H := H I7 eI7
  refine ev_aload_n dRun_rateAt_29 rfl ?_
  refine ev_getR hok fk_Run_67 (woRun hw) (fun _ _ _ => rfl) (wrRun_8 hw) dRun_rateAt_30 ?_
  refine ev_bipush (25) dRun_rateAt_33 (by decide) ?_
  refine ev_iload_n dRun_rateAt_35 rfl ?_
  refine ev_if_ne 45 dRun_rateAt_36 (by decide) (fun c8 => ?_) (fun c8 => ?_)
  · have H := H.1 c8
    refine ev_aload_n dRun_rateAt_45 rfl ?_
    refine ev_getR hok fk_Run_35 (woRun hw) (fun _ _ _ => rfl) (wrRun_3 hw) dRun_rateAt_46 ?_
    refine ev_getR hok fk_Run_264 (woRealm (wsRun_3 hw)) (fun _ _ _ => rfl) (wrRealm_0 (wsRun_3 hw)) dRun_rateAt_49 ?_
    refine ev_iload_n dRun_rateAt_52 rfl ?_
    obtain ⟨h9, H⟩ := H
    refine ev_iald hok (waRealm_0 (wsRun_3 hw)) h9 dRun_rateAt_53 ?_
    refine ev_iload_n dRun_rateAt_54 rfl ?_
    obtain ⟨h10, H⟩ := H
    refine ev_idiv dRun_rateAt_55 h10 ?_
    exact ev_sub [(0, .ref o), (1, .int x1), (2, .int x2), (3, .int ((I (uo_0 + 4) (x1 : Int32).toNatClampNeg)))] rfl (sRun_rateAt_56 o n sh Rf I7 L5 post x1 x2 (I (uo_0 + 4) (x1 : Int32).toNatClampNeg) ((I7 ((o + 24) + 1) (x1 : Int32).toNatClampNeg) / (I (uo_0 + 4) (x1 : Int32).toNatClampNeg)) 25 uo_0 hok hw huo_0 hwuo_0 H)
  · have H := H.2 c8
    refine ev_sipush (9999) dRun_rateAt_39 (by decide) ?_
    refine ev_goto 56 dRun_rateAt_42 (by decide) ?_
    exact ev_sub [(0, .ref o), (1, .int x1), (2, .int x2), (3, .int ((I (uo_0 + 4) (x1 : Int32).toNatClampNeg)))] rfl (sRun_rateAt_56 o n sh Rf I7 L5 post x1 x2 (I (uo_0 + 4) (x1 : Int32).toNatClampNeg) 9999 25 uo_0 hok hw huo_0 hwuo_0 H)
def fRun_sellSalt_0 (D : va_G) (cA : FieldType → ClassId) (b : Nat) (E : State → Prop) (o : Nat) (n : Nat) (sh : Nat → qC) (Rf : Nat → Nat → Option Nat) (I : Nat → Nat → Int32) (L : Nat → Nat → Int64) (post : Option Value → qS → Prop) (x1 : Int32) (uo_0 : Nat) : Prop :=
  vp_in x1 2880 ∧ vp_in x1 2880 ∧ Ev (qGG D cA b E) mRealm_priceIn 1 (0, 0) 0 (lv_args 0 [.ref ((o + 24)), .ref uo_0, .int ((I ((o + 44) + 3) (x1 : Int32).toNatClampNeg))]) [] (n, sh, Rf, I, L) (fun v τ => ∃ (r4 : Int32) (I5 : Nat → Nat → Int32) (L6 : Nat → Nat → Int64), v = some (.int r4) ∧ τ = (n, sh, Rf, I5, L6) ∧ ∀ y7 : Int32, ((if 0 < (r4 - (I5 (o + 60) 4)) then (r4 - (I5 (o + 60) 4)) else 0) : Int32) = y7 → vp_in x1 2880 ∧ Ev (qGG D cA b E) mRun_payTo 0 (0, 0) 0 (lv_args 0 [.ref o, .int ((I5 ((o + 44) + 2) (x1 : Int32).toNatClampNeg)), .long ((((I ((o + 44) + 5) (x1 : Int32).toNatClampNeg) : Int32).toInt64 * (y7 : Int32).toInt64))]) [] (n, sh, Rf, I5, L6) (fun v τ => ∃ (I11 : Nat → Nat → Int32) (L12 : Nat → Nat → Int64), v = none ∧ τ = (n, sh, Rf, I11, L12) ∧ ∀ L13 : Nat → Nat → Int64, q_u L12 (o + 65) 2 ((L12 (o + 65) 2) + (((I ((o + 44) + 5) (x1 : Int32).toNatClampNeg) : Int32).toInt64 * ((I11 (o + 60) 4) : Int32).toInt64)) = L13 → ∀ L14 : Nat → Nat → Int64, q_u L13 (o + 65) 1 ((L13 (o + 65) 1) + ((I ((o + 44) + 5) (x1 : Int32).toNatClampNeg) : Int32).toInt64) = L14 → vp_in (I ((o + 44) + 3) (x1 : Int32).toNatClampNeg) 5 ∧ vp_in x1 2880 ∧ vp_in (I ((o + 44) + 3) (x1 : Int32).toNatClampNeg) 5 ∧ ∀ I17 : Nat → Nat → Int32, q_u I11 ((o + 24) + 4) ((I ((o + 44) + 3) (x1 : Int32).toNatClampNeg) : Int32).toNatClampNeg ((I11 ((o + 24) + 4) ((I ((o + 44) + 3) (x1 : Int32).toNatClampNeg) : Int32).toNatClampNeg) + (I11 ((o + 44) + 5) (x1 : Int32).toNatClampNeg)) = I17 → post none (n, sh, Rf, I17, L14)))
set_option maxHeartbeats 4000000 in
set_option maxRecDepth 20000 in
theorem sRun_sellSalt_0 {D : va_G} {cA : FieldType → ClassId} {b : Nat} {E : State → Prop} (o : Nat) (n : Nat) (sh : Nat → qC) (Rf : Nat → Nat → Option Nat) (I : Nat → Nat → Int32) (L : Nat → Nat → Int64) (post : Option Value → qS → Prop) (x1 : Int32) (uo_0 : Nat) (hok : q_ok (qGG D cA b E)) (hw : WfRun (qGG D cA b E) n sh Rf o) (huo_0 : Rf o 0 = some uo_0) (hwuo_0 : WfLand (qGG D cA b E) n sh Rf uo_0) (H : fRun_sellSalt_0 D cA b E o n sh Rf I L post x1 uo_0) : Ev (qGG D cA b E) mRun_sellSalt 2 (0, 0) 0 [(0, .ref o), (1, .int x1)] [] (n, sh, Rf, I, L) post := by
  unfold fRun_sellSalt_0 at H
  refine ev_aload_n dRun_sellSalt_0 rfl ?_
  refine ev_getR hok fk_Run_49 (woRun hw) (fun _ _ _ => rfl) (wrRun_5 hw) dRun_sellSalt_1 ?_
  refine ev_getR hok fk_Run_286 (woLoads (wsRun_5 hw)) (fun _ _ _ => rfl) (wrLoads_2 (wsRun_5 hw)) dRun_sellSalt_4 ?_
  refine ev_iload_n dRun_sellSalt_7 rfl ?_
  obtain ⟨h1, H⟩ := H
  refine ev_iald hok (waLoads_2 (wsRun_5 hw)) h1 dRun_sellSalt_8 ?_
  refine ev_istore_n dRun_sellSalt_9 (by decide) ?_
  refine ev_aload_n dRun_sellSalt_10 rfl ?_
  refine ev_getR hok fk_Run_49 (woRun hw) (fun _ _ _ => rfl) (wrRun_5 hw) dRun_sellSalt_11 ?_
  refine ev_getR hok fk_Run_289 (woLoads (wsRun_5 hw)) (fun _ _ _ => rfl) (wrLoads_4 (wsRun_5 hw)) dRun_sellSalt_14 ?_
  refine ev_iload_n dRun_sellSalt_17 rfl ?_
  obtain ⟨h2, H⟩ := H
  refine ev_iald hok (waLoads_4 (wsRun_5 hw)) h2 dRun_sellSalt_18 ?_
  refine ev_i2l dRun_sellSalt_19 ?_
  refine ev_lstore_n dRun_sellSalt_20 (by decide) ?_
  refine ev_iconst (0) dRun_sellSalt_21 (by decide) ?_
  refine ev_aload_n dRun_sellSalt_22 rfl ?_
  refine ev_getR hok fk_Run_35 (woRun hw) (fun _ _ _ => rfl) (wrRun_3 hw) dRun_sellSalt_23 ?_
  refine ev_aload_n dRun_sellSalt_26 rfl ?_
  refine ev_getR hok fk_Run_12 (woRun hw) (fun _ _ _ => rfl) huo_0 dRun_sellSalt_27 ?_
  refine ev_iload_n dRun_sellSalt_30 rfl ?_
  refine ev_callV [.ref uo_0, .int ((I ((o + 44) + 3) (x1 : Int32).toNatClampNeg))] [.int 0] (B' := (0, 0)) (B'' := (0, 0)) hok mmRealm_priceIn mk_Run_307 (ci := 4) rfl rfl (woRealm (wsRun_3 hw)) rfl (Nat.le_of_ble_eq_true rfl) rfl (Nat.le_of_ble_eq_true rfl) dRun_sellSalt_31 rfl (by decide) H (fun v τ p3 => ?_)
  obtain ⟨r4, I5, L6, rfl, rfl, H⟩ := p3
  refine ev_aload_n dRun_sellSalt_34 rfl ?_
  refine ev_getR hok fk_Run_71 (woRun hw) (fun _ _ _ => rfl) (wrRun_9 hw) dRun_sellSalt_35 ?_
  refine ev_iconst (4) dRun_sellSalt_38 (by decide) ?_
  refine ev_iald hok (waRun_9 hw) (by unfold vp_in; decide) dRun_sellSalt_39 ?_
  rw [show (4 : Int32).toNatClampNeg = 4 from rfl]
  refine ev_isub dRun_sellSalt_40 ?_
  refine ev_mmax (by decide) (q_t5 202 (by decide +kernel) rfl) (q_t4 41 (by decide +kernel) rfl) (q_t1 19 (by decide +kernel) rfl) (q_t4 42 rfl rfl) (Nat.le_of_ble_eq_true rfl) dRun_sellSalt_41 ?_
  generalize ey7 : ((if 0 < (r4 - (I5 (o + 60) 4)) then (r4 - (I5 (o + 60) 4)) else 0) : Int32) = y7
  have H := H y7 ey7
  refine ev_istore dRun_sellSalt_44 (by decide) ?_
  refine ev_aload_n dRun_sellSalt_46 rfl ?_
  refine ev_aload_n dRun_sellSalt_47 rfl ?_
  refine ev_getR hok fk_Run_49 (woRun hw) (fun _ _ _ => rfl) (wrRun_5 hw) dRun_sellSalt_48 ?_
  refine ev_getR hok fk_Run_292 (woLoads (wsRun_5 hw)) (fun _ _ _ => rfl) (wrLoads_1 (wsRun_5 hw)) dRun_sellSalt_51 ?_
  refine ev_iload_n dRun_sellSalt_54 rfl ?_
  obtain ⟨h8, H⟩ := H
  refine ev_iald hok (waLoads_1 (wsRun_5 hw)) h8 dRun_sellSalt_55 ?_
  refine ev_lload_n dRun_sellSalt_56 rfl ?_
  refine ev_iload dRun_sellSalt_57 rfl ?_
  refine ev_i2l dRun_sellSalt_59 ?_
  refine ev_lmul dRun_sellSalt_60 ?_
  refine ev_callV [.int ((I5 ((o + 44) + 2) (x1 : Int32).toNatClampNeg)), .long ((((I ((o + 44) + 5) (x1 : Int32).toNatClampNeg) : Int32).toInt64 * (y7 : Int32).toInt64))] [] (B' := (0, 0)) (B'' := (0, 0)) hok mmRun_payTo mk_Run_216 (ci := 7) rfl rfl (woRun hw) rfl (Nat.le_of_ble_eq_true rfl) rfl (Nat.le_of_ble_eq_true rfl) dRun_sellSalt_61 rfl (by decide) H (fun v τ p9 => ?_)
  obtain ⟨I11, L12, rfl, rfl, H⟩ := p9
  refine ev_aload_n dRun_sellSalt_64 rfl ?_
  refine ev_getR hok fk_Run_87 (woRun hw) (fun _ _ _ => rfl) (wrRun_14 hw) dRun_sellSalt_65 ?_
  refine ev_iconst (2) dRun_sellSalt_68 (by decide) ?_
  refine ev_dup2_11 dRun_sellSalt_69 rfl rfl ?_
  refine ev_lald hok (waRun_14 hw) (by unfold vp_in; decide) dRun_sellSalt_70 ?_
  rw [show (2 : Int32).toNatClampNeg = 2 from rfl]
  refine ev_lload_n dRun_sellSalt_71 rfl ?_
  refine ev_aload_n dRun_sellSalt_72 rfl ?_
  refine ev_getR hok fk_Run_71 (woRun hw) (fun _ _ _ => rfl) (wrRun_9 hw) dRun_sellSalt_73 ?_
  refine ev_iconst (4) dRun_sellSalt_76 (by decide) ?_
  refine ev_iald hok (waRun_9 hw) (by unfold vp_in; decide) dRun_sellSalt_77 ?_
  rw [show (4 : Int32).toNatClampNeg = 4 from rfl]
  refine ev_i2l dRun_sellSalt_78 ?_
  refine ev_lmul dRun_sellSalt_79 ?_
  refine ev_ladd dRun_sellSalt_80 ?_
  refine ev_last hok (waRun_14 hw) (by unfold vp_in; decide) dRun_sellSalt_81 ?_
  rw [show (2 : Int32).toNatClampNeg = 2 from rfl]
  generalize eL13 : q_u L12 (o + 65) 2 ((L12 (o + 65) 2) + (((I ((o + 44) + 5) (x1 : Int32).toNatClampNeg) : Int32).toInt64 * ((I11 (o + 60) 4) : Int32).toInt64)) = L13
  have H := H L13 eL13
  refine ev_aload_n dRun_sellSalt_82 rfl ?_
  refine ev_getR hok fk_Run_87 (woRun hw) (fun _ _ _ => rfl) (wrRun_14 hw) dRun_sellSalt_83 ?_
  refine ev_iconst (1) dRun_sellSalt_86 (by decide) ?_
  refine ev_dup2_11 dRun_sellSalt_87 rfl rfl ?_
  refine ev_lald hok (waRun_14 hw) (by unfold vp_in; decide) dRun_sellSalt_88 ?_
  rw [show (1 : Int32).toNatClampNeg = 1 from rfl]
  refine ev_lload_n dRun_sellSalt_89 rfl ?_
  refine ev_ladd dRun_sellSalt_90 ?_
  refine ev_last hok (waRun_14 hw) (by unfold vp_in; decide) dRun_sellSalt_91 ?_
  rw [show (1 : Int32).toNatClampNeg = 1 from rfl]
  generalize eL14 : q_u L13 (o + 65) 1 ((L13 (o + 65) 1) + ((I ((o + 44) + 5) (x1 : Int32).toNatClampNeg) : Int32).toInt64) = L14
  have H := H L14 eL14
  refine ev_aload_n dRun_sellSalt_92 rfl ?_
  refine ev_getR hok fk_Run_35 (woRun hw) (fun _ _ _ => rfl) (wrRun_3 hw) dRun_sellSalt_93 ?_
  refine ev_getR hok fk_Run_311 (woRealm (wsRun_3 hw)) (fun _ _ _ => rfl) (wrRealm_3 (wsRun_3 hw)) dRun_sellSalt_96 ?_
  refine ev_iload_n dRun_sellSalt_99 rfl ?_
  refine ev_dup2_11 dRun_sellSalt_100 rfl rfl ?_
  obtain ⟨h15, H⟩ := H
  refine ev_iald hok (waRealm_3 (wsRun_3 hw)) h15 dRun_sellSalt_101 ?_
  refine ev_aload_n dRun_sellSalt_102 rfl ?_
  refine ev_getR hok fk_Run_49 (woRun hw) (fun _ _ _ => rfl) (wrRun_5 hw) dRun_sellSalt_103 ?_
  refine ev_getR hok fk_Run_289 (woLoads (wsRun_5 hw)) (fun _ _ _ => rfl) (wrLoads_4 (wsRun_5 hw)) dRun_sellSalt_106 ?_
  refine ev_iload_n dRun_sellSalt_109 rfl ?_
  obtain ⟨h16, H⟩ := H
  refine ev_iald hok (waLoads_4 (wsRun_5 hw)) h16 dRun_sellSalt_110 ?_
  refine ev_iadd dRun_sellSalt_111 ?_
  obtain ⟨h18, H⟩ := H
  refine ev_iast hok (waRealm_3 (wsRun_3 hw)) h18 dRun_sellSalt_112 ?_
  generalize eI17 : q_u I11 ((o + 24) + 4) ((I ((o + 44) + 3) (x1 : Int32).toNatClampNeg) : Int32).toNatClampNeg ((I11 ((o + 24) + 4) ((I ((o + 44) + 3) (x1 : Int32).toNatClampNeg) : Int32).toNatClampNeg) + (I11 ((o + 44) + 5) (x1 : Int32).toNatClampNeg)) = I17
  have H := H I17 eI17
  exact ev_vret rfl dRun_sellSalt_113 H
def fRun_smuggleBetween_97 (D : va_G) (cA : FieldType → ClassId) (b : Nat) (E : State → Prop) (o : Nat) (n : Nat) (sh : Nat → qC) (Rf : Nat → Nat → Option Nat) (I : Nat → Nat → Int32) (L : Nat → Nat → Int64) (post : Option Value → qS → Prop) (x1 : Int32) (x2 : Int32) (x3 : Int32) (x4 : Int32) (x5 : Int32) (x6 : Int32) (z0 : Int32) (uo_0 : Nat) : Prop :=
  vp_in x6 5 ∧ vp_in z0 5 ∧ ∀ y3 : Int32, ((if (I (uo_0 + 12) (z0 : Int32).toNatClampNeg) < ((I ((o + 24) + 4) (x6 : Int32).toNatClampNeg) / 10) then (I (uo_0 + 12) (z0 : Int32).toNatClampNeg) else ((I ((o + 24) + 4) (x6 : Int32).toNatClampNeg) / 10)) : Int32) = y3 → vp_in x6 5 ∧ vp_in x6 5 ∧ ∀ I5 : Nat → Nat → Int32, q_u I ((o + 24) + 4) (x6 : Int32).toNatClampNeg ((I ((o + 24) + 4) (x6 : Int32).toNatClampNeg) - y3) = I5 → vp_in z0 5 ∧ vp_in z0 5 ∧ ∀ I8 : Nat → Nat → Int32, q_u I5 ((o + 24) + 4) (z0 : Int32).toNatClampNeg ((I5 ((o + 24) + 4) (z0 : Int32).toNatClampNeg) + (y3 - ((y3 * (I (o + 60) 5)) / 100))) = I8 → vp_in z0 5 ∧ vp_in z0 5 ∧ ∀ I11 : Nat → Nat → Int32, q_u I8 ((o + 24) + 5) (z0 : Int32).toNatClampNeg ((I8 ((o + 24) + 5) (z0 : Int32).toNatClampNeg) + (y3 - ((y3 * (I (o + 60) 5)) / 100))) = I11 → ∀ L13 : Nat → Nat → Int64, q_u L (o + 65) 3 ((L (o + 65) 3) + ((y3 - ((y3 * (I (o + 60) 5)) / 100)) : Int32).toInt64) = L13 → ∀ L14 : Nat → Nat → Int64, q_u L13 (o + 65) 4 ((L13 (o + 65) 4) + (((y3 * (I (o + 60) 5)) / 100) : Int32).toInt64) = L14 → post none (n, sh, Rf, I11, L14)
set_option maxHeartbeats 4000000 in
set_option maxRecDepth 20000 in
theorem sRun_smuggleBetween_97 {D : va_G} {cA : FieldType → ClassId} {b : Nat} {E : State → Prop} (o : Nat) (n : Nat) (sh : Nat → qC) (Rf : Nat → Nat → Option Nat) (I : Nat → Nat → Int32) (L : Nat → Nat → Int64) (post : Option Value → qS → Prop) (x1 : Int32) (x2 : Int32) (x3 : Int32) (x4 : Int32) (x5 : Int32) (x6 : Int32) (z0 : Int32) (uo_0 : Nat) (hok : q_ok (qGG D cA b E)) (hw : WfRun (qGG D cA b E) n sh Rf o) (huo_0 : Rf o 0 = some uo_0) (hwuo_0 : WfLand (qGG D cA b E) n sh Rf uo_0) (H : fRun_smuggleBetween_97 D cA b E o n sh Rf I L post x1 x2 x3 x4 x5 x6 z0 uo_0) : Ev (qGG D cA b E) mRun_smuggleBetween 2 (0, 0) 97 [(0, .ref o), (1, .int x1), (2, .int x2), (3, .int x3), (4, .int x4), (5, .int x5), (6, .int x6)] [.int z0] (n, sh, Rf, I, L) post := by
  unfold fRun_smuggleBetween_97 at H
  refine ev_istore dRun_smuggleBetween_97 (by decide) ?_
  refine ev_aload_n dRun_smuggleBetween_99 rfl ?_
  refine ev_getR hok fk_Run_35 (woRun hw) (fun _ _ _ => rfl) (wrRun_3 hw) dRun_smuggleBetween_100 ?_
  refine ev_getR hok fk_Run_311 (woRealm (wsRun_3 hw)) (fun _ _ _ => rfl) (wrRealm_3 (wsRun_3 hw)) dRun_smuggleBetween_103 ?_
  refine ev_iload dRun_smuggleBetween_106 rfl ?_
  obtain ⟨h1, H⟩ := H
  refine ev_iald hok (waRealm_3 (wsRun_3 hw)) h1 dRun_smuggleBetween_108 ?_
  refine ev_bipush (10) dRun_smuggleBetween_109 (by decide) ?_
  refine ev_idiv dRun_smuggleBetween_111 (by decide) ?_
  refine ev_aload_n dRun_smuggleBetween_112 rfl ?_
  refine ev_getR hok fk_Run_12 (woRun hw) (fun _ _ _ => rfl) huo_0 dRun_smuggleBetween_113 ?_
  refine ev_getR hok fk_Run_465 (woLand hwuo_0) (fun _ _ _ => rfl) (wrLand_16 hwuo_0) dRun_smuggleBetween_116 ?_
  refine ev_iload dRun_smuggleBetween_119 rfl ?_
  obtain ⟨h2, H⟩ := H
  refine ev_iald hok (waLand_16 hwuo_0) h2 dRun_smuggleBetween_121 ?_
  refine ev_mmin (by decide) (q_t5 201 (by decide +kernel) rfl) (q_t4 44 (by decide +kernel) rfl) (q_t1 19 (by decide +kernel) rfl) (q_t4 45 rfl rfl) (Nat.le_of_ble_eq_true rfl) dRun_smuggleBetween_122 ?_
  generalize ey3 : ((if (I (uo_0 + 12) (z0 : Int32).toNatClampNeg) < ((I ((o + 24) + 4) (x6 : Int32).toNatClampNeg) / 10) then (I (uo_0 + 12) (z0 : Int32).toNatClampNeg) else ((I ((o + 24) + 4) (x6 : Int32).toNatClampNeg) / 10)) : Int32) = y3
  have H := H y3 ey3
  refine ev_istore dRun_smuggleBetween_125 (by decide) ?_
  refine ev_iload dRun_smuggleBetween_127 rfl ?_
  refine ev_aload_n dRun_smuggleBetween_129 rfl ?_
  refine ev_getR hok fk_Run_71 (woRun hw) (fun _ _ _ => rfl) (wrRun_9 hw) dRun_smuggleBetween_130 ?_
  refine ev_iconst (5) dRun_smuggleBetween_133 (by decide) ?_
  refine ev_iald hok (waRun_9 hw) (by unfold vp_in; decide) dRun_smuggleBetween_134 ?_
  rw [show (5 : Int32).toNatClampNeg = 5 from rfl]
  refine ev_imul dRun_smuggleBetween_135 ?_
  refine ev_bipush (100) dRun_smuggleBetween_136 (by decide) ?_
  refine ev_idiv dRun_smuggleBetween_138 (by decide) ?_
  refine ev_istore dRun_smuggleBetween_139 (by decide) ?_
  refine ev_aload_n dRun_smuggleBetween_141 rfl ?_
  refine ev_getR hok fk_Run_35 (woRun hw) (fun _ _ _ => rfl) (wrRun_3 hw) dRun_smuggleBetween_142 ?_
  refine ev_getR hok fk_Run_311 (woRealm (wsRun_3 hw)) (fun _ _ _ => rfl) (wrRealm_3 (wsRun_3 hw)) dRun_smuggleBetween_145 ?_
  refine ev_iload dRun_smuggleBetween_148 rfl ?_
  refine ev_dup2_11 dRun_smuggleBetween_150 rfl rfl ?_
  obtain ⟨h4, H⟩ := H
  refine ev_iald hok (waRealm_3 (wsRun_3 hw)) h4 dRun_smuggleBetween_151 ?_
  refine ev_iload dRun_smuggleBetween_152 rfl ?_
  refine ev_isub dRun_smuggleBetween_154 ?_
  obtain ⟨h6, H⟩ := H
  refine ev_iast hok (waRealm_3 (wsRun_3 hw)) h6 dRun_smuggleBetween_155 ?_
  generalize eI5 : q_u I ((o + 24) + 4) (x6 : Int32).toNatClampNeg ((I ((o + 24) + 4) (x6 : Int32).toNatClampNeg) - y3) = I5
  have H := H I5 eI5
  refine ev_aload_n dRun_smuggleBetween_156 rfl ?_
  refine ev_getR hok fk_Run_35 (woRun hw) (fun _ _ _ => rfl) (wrRun_3 hw) dRun_smuggleBetween_157 ?_
  refine ev_getR hok fk_Run_311 (woRealm (wsRun_3 hw)) (fun _ _ _ => rfl) (wrRealm_3 (wsRun_3 hw)) dRun_smuggleBetween_160 ?_
  refine ev_iload dRun_smuggleBetween_163 rfl ?_
  refine ev_dup2_11 dRun_smuggleBetween_165 rfl rfl ?_
  obtain ⟨h7, H⟩ := H
  refine ev_iald hok (waRealm_3 (wsRun_3 hw)) h7 dRun_smuggleBetween_166 ?_
  refine ev_iload dRun_smuggleBetween_167 rfl ?_
  refine ev_iload dRun_smuggleBetween_169 rfl ?_
  refine ev_isub dRun_smuggleBetween_171 ?_
  refine ev_iadd dRun_smuggleBetween_172 ?_
  obtain ⟨h9, H⟩ := H
  refine ev_iast hok (waRealm_3 (wsRun_3 hw)) h9 dRun_smuggleBetween_173 ?_
  generalize eI8 : q_u I5 ((o + 24) + 4) (z0 : Int32).toNatClampNeg ((I5 ((o + 24) + 4) (z0 : Int32).toNatClampNeg) + (y3 - ((y3 * (I (o + 60) 5)) / 100))) = I8
  have H := H I8 eI8
  refine ev_aload_n dRun_smuggleBetween_174 rfl ?_
  refine ev_getR hok fk_Run_35 (woRun hw) (fun _ _ _ => rfl) (wrRun_3 hw) dRun_smuggleBetween_175 ?_
  refine ev_getR hok fk_Run_456 (woRealm (wsRun_3 hw)) (fun _ _ _ => rfl) (wrRealm_4 (wsRun_3 hw)) dRun_smuggleBetween_178 ?_
  refine ev_iload dRun_smuggleBetween_181 rfl ?_
  refine ev_dup2_11 dRun_smuggleBetween_183 rfl rfl ?_
  obtain ⟨h10, H⟩ := H
  refine ev_iald hok (waRealm_4 (wsRun_3 hw)) h10 dRun_smuggleBetween_184 ?_
  refine ev_iload dRun_smuggleBetween_185 rfl ?_
  refine ev_iload dRun_smuggleBetween_187 rfl ?_
  refine ev_isub dRun_smuggleBetween_189 ?_
  refine ev_iadd dRun_smuggleBetween_190 ?_
  obtain ⟨h12, H⟩ := H
  refine ev_iast hok (waRealm_4 (wsRun_3 hw)) h12 dRun_smuggleBetween_191 ?_
  generalize eI11 : q_u I8 ((o + 24) + 5) (z0 : Int32).toNatClampNeg ((I8 ((o + 24) + 5) (z0 : Int32).toNatClampNeg) + (y3 - ((y3 * (I (o + 60) 5)) / 100))) = I11
  have H := H I11 eI11
  refine ev_aload_n dRun_smuggleBetween_192 rfl ?_
  refine ev_getR hok fk_Run_87 (woRun hw) (fun _ _ _ => rfl) (wrRun_14 hw) dRun_smuggleBetween_193 ?_
  refine ev_iconst (3) dRun_smuggleBetween_196 (by decide) ?_
  refine ev_dup2_11 dRun_smuggleBetween_197 rfl rfl ?_
  refine ev_lald hok (waRun_14 hw) (by unfold vp_in; decide) dRun_smuggleBetween_198 ?_
  rw [show (3 : Int32).toNatClampNeg = 3 from rfl]
  refine ev_iload dRun_smuggleBetween_199 rfl ?_
  refine ev_iload dRun_smuggleBetween_201 rfl ?_
  refine ev_isub dRun_smuggleBetween_203 ?_
  refine ev_i2l dRun_smuggleBetween_204 ?_
  refine ev_ladd dRun_smuggleBetween_205 ?_
  refine ev_last hok (waRun_14 hw) (by unfold vp_in; decide) dRun_smuggleBetween_206 ?_
  rw [show (3 : Int32).toNatClampNeg = 3 from rfl]
  generalize eL13 : q_u L (o + 65) 3 ((L (o + 65) 3) + ((y3 - ((y3 * (I (o + 60) 5)) / 100)) : Int32).toInt64) = L13
  have H := H L13 eL13
  refine ev_aload_n dRun_smuggleBetween_207 rfl ?_
  refine ev_getR hok fk_Run_87 (woRun hw) (fun _ _ _ => rfl) (wrRun_14 hw) dRun_smuggleBetween_208 ?_
  refine ev_iconst (4) dRun_smuggleBetween_211 (by decide) ?_
  refine ev_dup2_11 dRun_smuggleBetween_212 rfl rfl ?_
  refine ev_lald hok (waRun_14 hw) (by unfold vp_in; decide) dRun_smuggleBetween_213 ?_
  rw [show (4 : Int32).toNatClampNeg = 4 from rfl]
  refine ev_iload dRun_smuggleBetween_214 rfl ?_
  refine ev_i2l dRun_smuggleBetween_216 ?_
  refine ev_ladd dRun_smuggleBetween_217 ?_
  refine ev_last hok (waRun_14 hw) (by unfold vp_in; decide) dRun_smuggleBetween_218 ?_
  rw [show (4 : Int32).toNatClampNeg = 4 from rfl]
  generalize eL14 : q_u L13 (o + 65) 4 ((L13 (o + 65) 4) + (((y3 * (I (o + 60) 5)) / 100) : Int32).toInt64) = L14
  have H := H L14 eL14
  exact ev_vret rfl dRun_smuggleBetween_219 H
def fRun_smuggleBetween_84 (D : va_G) (cA : FieldType → ClassId) (b : Nat) (E : State → Prop) (o : Nat) (n : Nat) (sh : Nat → qC) (Rf : Nat → Nat → Option Nat) (I : Nat → Nat → Int32) (L : Nat → Nat → Int64) (post : Option Value → qS → Prop) (x1 : Int32) (x2 : Int32) (x3 : Int32) (x4 : Int32) (x5 : Int32) (z0 : Int32) (uo_0 : Nat) : Prop :=
  ((x4 ≤ x3 → fRun_smuggleBetween_97 D cA b E o n sh Rf I L post x1 x2 x3 x4 x5 z0 x1 uo_0) ∧ (¬ x4 ≤ x3 → fRun_smuggleBetween_97 D cA b E o n sh Rf I L post x1 x2 x3 x4 x5 z0 x2 uo_0))
set_option maxHeartbeats 4000000 in
set_option maxRecDepth 20000 in
theorem sRun_smuggleBetween_84 {D : va_G} {cA : FieldType → ClassId} {b : Nat} {E : State → Prop} (o : Nat) (n : Nat) (sh : Nat → qC) (Rf : Nat → Nat → Option Nat) (I : Nat → Nat → Int32) (L : Nat → Nat → Int64) (post : Option Value → qS → Prop) (x1 : Int32) (x2 : Int32) (x3 : Int32) (x4 : Int32) (x5 : Int32) (z0 : Int32) (uo_0 : Nat) (hok : q_ok (qGG D cA b E)) (hw : WfRun (qGG D cA b E) n sh Rf o) (huo_0 : Rf o 0 = some uo_0) (hwuo_0 : WfLand (qGG D cA b E) n sh Rf uo_0) (H : fRun_smuggleBetween_84 D cA b E o n sh Rf I L post x1 x2 x3 x4 x5 z0 uo_0) : Ev (qGG D cA b E) mRun_smuggleBetween 2 (0, 0) 84 [(0, .ref o), (1, .int x1), (2, .int x2), (3, .int x3), (4, .int x4), (5, .int x5)] [.int z0] (n, sh, Rf, I, L) post := by
  unfold fRun_smuggleBetween_84 at H
  refine ev_istore dRun_smuggleBetween_84 (by decide) ?_
  refine ev_iload_n dRun_smuggleBetween_86 rfl ?_
  refine ev_iload dRun_smuggleBetween_87 rfl ?_
  refine ev_icmp_ge 96 dRun_smuggleBetween_89 (by decide) (fun c1 => ?_) (fun c1 => ?_)
  · have H := H.1 c1
    refine ev_iload_n dRun_smuggleBetween_96 rfl ?_
    exact ev_sub [(0, .ref o), (1, .int x1), (2, .int x2), (3, .int x3), (4, .int x4), (5, .int x5), (6, .int z0)] rfl (sRun_smuggleBetween_97 o n sh Rf I L post x1 x2 x3 x4 x5 z0 x1 uo_0 hok hw huo_0 hwuo_0 H)
  · have H := H.2 c1
    refine ev_iload_n dRun_smuggleBetween_92 rfl ?_
    refine ev_goto 97 dRun_smuggleBetween_93 (by decide) ?_
    exact ev_sub [(0, .ref o), (1, .int x1), (2, .int x2), (3, .int x3), (4, .int x4), (5, .int x5), (6, .int z0)] rfl (sRun_smuggleBetween_97 o n sh Rf I L post x1 x2 x3 x4 x5 z0 x2 uo_0 hok hw huo_0 hwuo_0 H)
def fRun_smuggleBetween_0 (D : va_G) (cA : FieldType → ClassId) (b : Nat) (E : State → Prop) (o : Nat) (n : Nat) (sh : Nat → qC) (Rf : Nat → Nat → Option Nat) (I : Nat → Nat → Int32) (L : Nat → Nat → Int64) (post : Option Value → qS → Prop) (x1 : Int32) (x2 : Int32) (uo_0 : Nat) : Prop :=
  Ev (qGG D cA b E) mRealm_priceIn 1 (0, 0) 0 (lv_args 0 [.ref ((o + 24)), .ref uo_0, .int x1]) [] (n, sh, Rf, I, L) (fun v τ => ∃ (r2 : Int32) (I3 : Nat → Nat → Int32) (L4 : Nat → Nat → Int64), v = some (.int r2) ∧ τ = (n, sh, Rf, I3, L4) ∧ Ev (qGG D cA b E) mRealm_priceIn 1 (0, 0) 0 (lv_args 0 [.ref ((o + 24)), .ref uo_0, .int x2]) [] (n, sh, Rf, I3, L4) (fun v τ => ∃ (r6 : Int32) (I7 : Nat → Nat → Int32) (L8 : Nat → Nat → Int64), v = some (.int r6) ∧ τ = (n, sh, Rf, I7, L8) ∧ vp_in x1 5 ∧ vp_in x2 5 ∧ Ev (qGG D cA b E) mLand_daysBetween 0 (0, 0) 0 (lv_args 0 [.ref uo_0, .int ((I7 (uo_0 + 10) (x1 : Int32).toNatClampNeg)), .int ((I7 (uo_0 + 10) (x2 : Int32).toNatClampNeg))]) [] (n, sh, Rf, I7, L8) (fun v τ => ∃ (r12 : Int32) (I13 : Nat → Nat → Int32) (L14 : Nat → Nat → Int64), v = some (.int r12) ∧ τ = (n, sh, Rf, I13, L14) ∧ ((r12 = (-1) → post none (n, sh, Rf, I13, L14)) ∧ (¬ r12 = (-1) → ∀ y16 : Int32, ((if 0 ≤ (r2 - r6) then (r2 - r6) else 0 - (r2 - r6)) : Int32) = y16 → ((r12 < y16 → ((r6 ≤ r2 → fRun_smuggleBetween_84 D cA b E o n sh Rf I13 L14 post x1 x2 r2 r6 r12 x2 uo_0) ∧ (¬ r6 ≤ r2 → fRun_smuggleBetween_84 D cA b E o n sh Rf I13 L14 post x1 x2 r2 r6 r12 x1 uo_0))) ∧ (¬ r12 < y16 → post none (n, sh, Rf, I13, L14))))))))
set_option maxHeartbeats 4000000 in
set_option maxRecDepth 20000 in
theorem sRun_smuggleBetween_0 {D : va_G} {cA : FieldType → ClassId} {b : Nat} {E : State → Prop} (o : Nat) (n : Nat) (sh : Nat → qC) (Rf : Nat → Nat → Option Nat) (I : Nat → Nat → Int32) (L : Nat → Nat → Int64) (post : Option Value → qS → Prop) (x1 : Int32) (x2 : Int32) (uo_0 : Nat) (hok : q_ok (qGG D cA b E)) (hw : WfRun (qGG D cA b E) n sh Rf o) (huo_0 : Rf o 0 = some uo_0) (hwuo_0 : WfLand (qGG D cA b E) n sh Rf uo_0) (H : fRun_smuggleBetween_0 D cA b E o n sh Rf I L post x1 x2 uo_0) : Ev (qGG D cA b E) mRun_smuggleBetween 2 (0, 0) 0 [(0, .ref o), (1, .int x1), (2, .int x2)] [] (n, sh, Rf, I, L) post := by
  unfold fRun_smuggleBetween_0 at H
  refine ev_aload_n dRun_smuggleBetween_0 rfl ?_
  refine ev_getR hok fk_Run_35 (woRun hw) (fun _ _ _ => rfl) (wrRun_3 hw) dRun_smuggleBetween_1 ?_
  refine ev_aload_n dRun_smuggleBetween_4 rfl ?_
  refine ev_getR hok fk_Run_12 (woRun hw) (fun _ _ _ => rfl) huo_0 dRun_smuggleBetween_5 ?_
  refine ev_iload_n dRun_smuggleBetween_8 rfl ?_
  refine ev_callV [.ref uo_0, .int x1] [] (B' := (0, 0)) (B'' := (0, 0)) hok mmRealm_priceIn mk_Run_307 (ci := 4) rfl rfl (woRealm (wsRun_3 hw)) rfl (Nat.le_of_ble_eq_true rfl) rfl (Nat.le_of_ble_eq_true rfl) dRun_smuggleBetween_9 rfl (by decide) H (fun v τ p1 => ?_)
  obtain ⟨r2, I3, L4, rfl, rfl, H⟩ := p1
  refine ev_istore_n dRun_smuggleBetween_12 (by decide) ?_
  refine ev_aload_n dRun_smuggleBetween_13 rfl ?_
  refine ev_getR hok fk_Run_35 (woRun hw) (fun _ _ _ => rfl) (wrRun_3 hw) dRun_smuggleBetween_14 ?_
  refine ev_aload_n dRun_smuggleBetween_17 rfl ?_
  refine ev_getR hok fk_Run_12 (woRun hw) (fun _ _ _ => rfl) huo_0 dRun_smuggleBetween_18 ?_
  refine ev_iload_n dRun_smuggleBetween_21 rfl ?_
  refine ev_callV [.ref uo_0, .int x2] [] (B' := (0, 0)) (B'' := (0, 0)) hok mmRealm_priceIn mk_Run_307 (ci := 4) rfl rfl (woRealm (wsRun_3 hw)) rfl (Nat.le_of_ble_eq_true rfl) rfl (Nat.le_of_ble_eq_true rfl) dRun_smuggleBetween_22 rfl (by decide) H (fun v τ p5 => ?_)
  obtain ⟨r6, I7, L8, rfl, rfl, H⟩ := p5
  refine ev_istore dRun_smuggleBetween_25 (by decide) ?_
  refine ev_aload_n dRun_smuggleBetween_27 rfl ?_
  refine ev_getR hok fk_Run_12 (woRun hw) (fun _ _ _ => rfl) huo_0 dRun_smuggleBetween_28 ?_
  refine ev_aload_n dRun_smuggleBetween_31 rfl ?_
  refine ev_getR hok fk_Run_12 (woRun hw) (fun _ _ _ => rfl) huo_0 dRun_smuggleBetween_32 ?_
  refine ev_getR hok fk_Run_358 (woLand hwuo_0) (fun _ _ _ => rfl) (wrLand_14 hwuo_0) dRun_smuggleBetween_35 ?_
  refine ev_iload_n dRun_smuggleBetween_38 rfl ?_
  obtain ⟨h9, H⟩ := H
  refine ev_iald hok (waLand_14 hwuo_0) h9 dRun_smuggleBetween_39 ?_
  refine ev_aload_n dRun_smuggleBetween_40 rfl ?_
  refine ev_getR hok fk_Run_12 (woRun hw) (fun _ _ _ => rfl) huo_0 dRun_smuggleBetween_41 ?_
  refine ev_getR hok fk_Run_358 (woLand hwuo_0) (fun _ _ _ => rfl) (wrLand_14 hwuo_0) dRun_smuggleBetween_44 ?_
  refine ev_iload_n dRun_smuggleBetween_47 rfl ?_
  obtain ⟨h10, H⟩ := H
  refine ev_iald hok (waLand_14 hwuo_0) h10 dRun_smuggleBetween_48 ?_
  refine ev_callV [.int ((I7 (uo_0 + 10) (x1 : Int32).toNatClampNeg)), .int ((I7 (uo_0 + 10) (x2 : Int32).toNatClampNeg))] [] (B' := (0, 0)) (B'' := (0, 0)) hok mmLand_daysBetween mk_Run_361 (ci := 1) rfl rfl (woLand hwuo_0) rfl (Nat.le_of_ble_eq_true rfl) rfl (Nat.le_of_ble_eq_true rfl) dRun_smuggleBetween_49 rfl (by decide) H (fun v τ p11 => ?_)
  obtain ⟨r12, I13, L14, rfl, rfl, H⟩ := p11
  refine ev_istore dRun_smuggleBetween_52 (by decide) ?_
  refine ev_iload dRun_smuggleBetween_54 rfl ?_
  refine ev_iconst (-1) dRun_smuggleBetween_56 (by decide) ?_
  refine ev_icmp_eq 72 dRun_smuggleBetween_57 (by decide) (fun c15 => ?_) (fun c15 => ?_)
  · have H := H.1 c15
    exact ev_vret rfl dRun_smuggleBetween_72 H
  · have H := H.2 c15
    refine ev_iload_n dRun_smuggleBetween_60 rfl ?_
    refine ev_iload dRun_smuggleBetween_61 rfl ?_
    refine ev_isub dRun_smuggleBetween_63 ?_
    refine ev_mabs (by decide) (q_t6 131 (by decide +kernel) rfl) (q_t6 132 (by decide +kernel) rfl) (q_t1 19 (by decide +kernel) rfl) (q_t6 133 rfl rfl) (Nat.le_of_ble_eq_true rfl) dRun_smuggleBetween_64 ?_
    generalize ey16 : ((if 0 ≤ (r2 - r6) then (r2 - r6) else 0 - (r2 - r6)) : Int32) = y16
    have H := H y16 ey16
    refine ev_iload dRun_smuggleBetween_67 rfl ?_
    refine ev_icmp_gt 73 dRun_smuggleBetween_69 (by decide) (fun c17 => ?_) (fun c17 => ?_)
    · have H := H.1 c17
      refine ev_iload_n dRun_smuggleBetween_73 rfl ?_
      refine ev_iload dRun_smuggleBetween_74 rfl ?_
      refine ev_icmp_ge 83 dRun_smuggleBetween_76 (by decide) (fun c18 => ?_) (fun c18 => ?_)
      · have H := H.1 c18
        refine ev_iload_n dRun_smuggleBetween_83 rfl ?_
        exact ev_sub [(0, .ref o), (1, .int x1), (2, .int x2), (3, .int r2), (4, .int r6), (5, .int r12)] rfl (sRun_smuggleBetween_84 o n sh Rf I13 L14 post x1 x2 r2 r6 r12 x2 uo_0 hok hw huo_0 hwuo_0 H)
      · have H := H.2 c18
        refine ev_iload_n dRun_smuggleBetween_79 rfl ?_
        refine ev_goto 84 dRun_smuggleBetween_80 (by decide) ?_
        exact ev_sub [(0, .ref o), (1, .int x1), (2, .int x2), (3, .int r2), (4, .int r6), (5, .int r12)] rfl (sRun_smuggleBetween_84 o n sh Rf I13 L14 post x1 x2 r2 r6 r12 x1 uo_0 hok hw huo_0 hwuo_0 H)
    · have H := H.2 c17
      exact ev_vret rfl dRun_smuggleBetween_72 H
def fRun_tellMonth_24 (D : va_G) (cA : FieldType → ClassId) (b : Nat) (E : State → Prop) (o : Nat) (n : Nat) (sh : Nat → qC) (Rf : Nat → Nat → Option Nat) (I : Nat → Nat → Int32) (L : Nat → Nat → Int64) (post : Option Value → qS → Prop) (x1 : Int32) (z0 : Int32) (uo_0 : Nat) : Prop :=
  Ev (qGG D cA b E) mReform_tell 1 (0, 0) 0 (lv_args 0 [.ref ((o + 19)), .int x1, .ref ((o + 59))]) [] (n, sh, Rf, I, L) (fun v τ => ∃ (r2 : Int32) (I3 : Nat → Nat → Int32) (L4 : Nat → Nat → Int64), v = some (.int r2) ∧ τ = (n, sh, Rf, I3, L4) ∧ ∀ y5 : Int32, ((if r2 < z0 then r2 else z0) : Int32) = y5 → ∀ y6 : Int32, ((if 0 < y5 then y5 else 0) : Int32) = y6 → vp_in x1 11 ∧ ∀ I7 : Nat → Nat → Int32, q_u I3 (o + 60) (x1 : Int32).toNatClampNeg y6 = I7 → Ev (qGG D cA b E) mRun_tellMonth 2 (0, 0) 6 [(0, .ref o), (1, .int ((x1 + Int32.ofInt 1)))] [] (n, sh, Rf, I7, L4) post)
set_option maxHeartbeats 4000000 in
set_option maxRecDepth 20000 in
theorem sRun_tellMonth_24 {D : va_G} {cA : FieldType → ClassId} {b : Nat} {E : State → Prop} (o : Nat) (n : Nat) (sh : Nat → qC) (Rf : Nat → Nat → Option Nat) (I : Nat → Nat → Int32) (L : Nat → Nat → Int64) (post : Option Value → qS → Prop) (x1 : Int32) (z0 : Int32) (uo_0 : Nat) (hok : q_ok (qGG D cA b E)) (hw : WfRun (qGG D cA b E) n sh Rf o) (huo_0 : Rf o 0 = some uo_0) (hwuo_0 : WfLand (qGG D cA b E) n sh Rf uo_0) (H : fRun_tellMonth_24 D cA b E o n sh Rf I L post x1 z0 uo_0) : Ev (qGG D cA b E) mRun_tellMonth 2 (0, 0) 24 [(0, .ref o), (1, .int x1)] [.int z0] (n, sh, Rf, I, L) post := by
  unfold fRun_tellMonth_24 at H
  refine ev_istore_n dRun_tellMonth_24 (by decide) ?_
  refine ev_aload_n dRun_tellMonth_25 rfl ?_
  refine ev_getR hok fk_Run_71 (woRun hw) (fun _ _ _ => rfl) (wrRun_9 hw) dRun_tellMonth_26 ?_
  refine ev_iload_n dRun_tellMonth_29 rfl ?_
  refine ev_iconst (0) dRun_tellMonth_30 (by decide) ?_
  refine ev_iload_n dRun_tellMonth_31 rfl ?_
  refine ev_aload_n dRun_tellMonth_32 rfl ?_
  refine ev_getR hok fk_Run_28 (woRun hw) (fun _ _ _ => rfl) (wrRun_2 hw) dRun_tellMonth_33 ?_
  refine ev_iload_n dRun_tellMonth_36 rfl ?_
  refine ev_aload_n dRun_tellMonth_37 rfl ?_
  refine ev_getR hok fk_Run_67 (woRun hw) (fun _ _ _ => rfl) (wrRun_8 hw) dRun_tellMonth_38 ?_
  refine ev_callV [.int x1, .ref ((o + 59))] [.int z0, .int 0, .int x1, .ref ((o + 60))] (B' := (0, 0)) (B'' := (0, 0)) hok mmReform_tell mk_Run_241 (ci := 6) rfl rfl (woReform (wsRun_2 hw)) rfl (Nat.le_of_ble_eq_true rfl) rfl (Nat.le_of_ble_eq_true rfl) dRun_tellMonth_41 rfl (by decide) H (fun v τ p1 => ?_)
  obtain ⟨r2, I3, L4, rfl, rfl, H⟩ := p1
  refine ev_mmin (by decide) (q_t5 201 (by decide +kernel) rfl) (q_t4 44 (by decide +kernel) rfl) (q_t1 19 (by decide +kernel) rfl) (q_t4 45 rfl rfl) (Nat.le_of_ble_eq_true rfl) dRun_tellMonth_44 ?_
  generalize ey5 : ((if r2 < z0 then r2 else z0) : Int32) = y5
  have H := H y5 ey5
  refine ev_mmax (by decide) (q_t5 202 (by decide +kernel) rfl) (q_t4 41 (by decide +kernel) rfl) (q_t1 19 (by decide +kernel) rfl) (q_t4 42 rfl rfl) (Nat.le_of_ble_eq_true rfl) dRun_tellMonth_47 ?_
  generalize ey6 : ((if 0 < y5 then y5 else 0) : Int32) = y6
  have H := H y6 ey6
  obtain ⟨h8, H⟩ := H
  refine ev_iast hok (waRun_9 hw) h8 dRun_tellMonth_50 ?_
  generalize eI7 : q_u I3 (o + 60) (x1 : Int32).toNatClampNeg y6 = I7
  have H := H I7 eI7
  refine ev_iinc dRun_tellMonth_51 rfl (by decide) ?_
  refine ev_goto 6 dRun_tellMonth_54 (by decide) ?_
  exact ev_sub [(0, .ref o), (1, .int ((x1 + Int32.ofInt 1)))] rfl H
def fRun_tellMonth_6 (D : va_G) (cA : FieldType → ClassId) (b : Nat) (E : State → Prop) (o : Nat) (n : Nat) (sh : Nat → qC) (Rf : Nat → Nat → Option Nat) (I : Nat → Nat → Int32) (L : Nat → Nat → Int64) (post : Option Value → qS → Prop) (x1 : Int32) (uo_0 : Nat) : Prop :=
  ((5 < x1 → ∀ I2 : Nat → Nat → Int32, q_u I o 18 (I (o + 60) 3) = I2 → Ev (qGG D cA b E) mRealm_refillGrain 1 (0, 0) 0 (lv_args 0 [.ref ((o + 24)), .ref uo_0]) [] (n, sh, Rf, I2, L) (fun v τ => ∃ (I5 : Nat → Nat → Int32) (L6 : Nat → Nat → Int64), v = none ∧ τ = (n, sh, Rf, I5, L6) ∧ post none (n, sh, Rf, I5, L6))) ∧ (¬ 5 < x1 → ((¬ x1 = 5 → fRun_tellMonth_24 D cA b E o n sh Rf I L post x1 9999 uo_0) ∧ (x1 = 5 → fRun_tellMonth_24 D cA b E o n sh Rf I L post x1 100 uo_0))))
set_option maxHeartbeats 4000000 in
set_option maxRecDepth 20000 in
theorem sRun_tellMonth_6 {D : va_G} {cA : FieldType → ClassId} {b : Nat} {E : State → Prop} (o : Nat) (n : Nat) (sh : Nat → qC) (Rf : Nat → Nat → Option Nat) (I : Nat → Nat → Int32) (L : Nat → Nat → Int64) (post : Option Value → qS → Prop) (x1 : Int32) (uo_0 : Nat) (hok : q_ok (qGG D cA b E)) (hw : WfRun (qGG D cA b E) n sh Rf o) (huo_0 : Rf o 0 = some uo_0) (hwuo_0 : WfLand (qGG D cA b E) n sh Rf uo_0) (H : fRun_tellMonth_6 D cA b E o n sh Rf I L post x1 uo_0) : Ev (qGG D cA b E) mRun_tellMonth 2 (0, 0) 6 [(0, .ref o), (1, .int x1)] [] (n, sh, Rf, I, L) post := by
  unfold fRun_tellMonth_6 at H
  refine ev_iload_n dRun_tellMonth_6 rfl ?_
  refine ev_iconst (5) dRun_tellMonth_7 (by decide) ?_
  refine ev_icmp_gt 57 dRun_tellMonth_8 (by decide) (fun c1 => ?_) (fun c1 => ?_)
  · have H := H.1 c1
    refine ev_aload_n dRun_tellMonth_57 rfl ?_
    refine ev_aload_n dRun_tellMonth_58 rfl ?_
    refine ev_getR hok fk_Run_71 (woRun hw) (fun _ _ _ => rfl) (wrRun_9 hw) dRun_tellMonth_59 ?_
    refine ev_iconst (3) dRun_tellMonth_62 (by decide) ?_
    refine ev_iald hok (waRun_9 hw) (by unfold vp_in; decide) dRun_tellMonth_63 ?_
    rw [show (3 : Int32).toNatClampNeg = 3 from rfl]
    refine ev_putI hok fk_Run_101 (woRun hw) (fun _ _ _ => rfl) rfl rfl dRun_tellMonth_64 ?_
    generalize eI2 : q_u I o 18 (I (o + 60) 3) = I2
    have H := H I2 eI2
    refine ev_aload_n dRun_tellMonth_67 rfl ?_
    refine ev_getR hok fk_Run_35 (woRun hw) (fun _ _ _ => rfl) (wrRun_3 hw) dRun_tellMonth_68 ?_
    refine ev_aload_n dRun_tellMonth_71 rfl ?_
    refine ev_getR hok fk_Run_12 (woRun hw) (fun _ _ _ => rfl) huo_0 dRun_tellMonth_72 ?_
    refine ev_callV [.ref uo_0] [] (B' := (0, 0)) (B'' := (0, 0)) hok mmRealm_refillGrain mk_Run_254 (ci := 4) rfl rfl (woRealm (wsRun_3 hw)) rfl (Nat.le_of_ble_eq_true rfl) rfl (Nat.le_of_ble_eq_true rfl) dRun_tellMonth_75 rfl (by decide) H (fun v τ p3 => ?_)
    obtain ⟨I5, L6, rfl, rfl, H⟩ := p3
    exact ev_vret rfl dRun_tellMonth_78 H
  · have H := H.2 c1
    refine ev_iload_n dRun_tellMonth_11 rfl ?_
    refine ev_iconst (5) dRun_tellMonth_12 (by decide) ?_
    refine ev_icmp_ne 21 dRun_tellMonth_13 (by decide) (fun c7 => ?_) (fun c7 => ?_)
    · have H := H.1 c7
      refine ev_sipush (9999) dRun_tellMonth_21 (by decide) ?_
      exact ev_sub [(0, .ref o), (1, .int x1)] rfl (sRun_tellMonth_24 o n sh Rf I L post x1 9999 uo_0 hok hw huo_0 hwuo_0 H)
    · have H := H.2 c7
      refine ev_bipush (100) dRun_tellMonth_16 (by decide) ?_
      refine ev_goto 24 dRun_tellMonth_18 (by decide) ?_
      exact ev_sub [(0, .ref o), (1, .int x1)] rfl (sRun_tellMonth_24 o n sh Rf I L post x1 100 uo_0 hok hw huo_0 hwuo_0 H)
def fRun_tellMonth_0 (D : va_G) (cA : FieldType → ClassId) (b : Nat) (E : State → Prop) (o : Nat) (n : Nat) (sh : Nat → qC) (Rf : Nat → Nat → Option Nat) (I : Nat → Nat → Int32) (L : Nat → Nat → Int64) (post : Option Value → qS → Prop) (uo_0 : Nat) : Prop :=
  Ev (qGG D cA b E) mRun_askCommon 1 (0, 0) 0 (lv_args 0 [.ref o]) [] (n, sh, Rf, I, L) (fun v τ => ∃ (I3 : Nat → Nat → Int32) (L4 : Nat → Nat → Int64), v = none ∧ τ = (n, sh, Rf, I3, L4) ∧ Ev (qGG D cA b E) mRun_tellMonth 2 (0, 0) 6 [(0, .ref o), (1, .int 2)] [] (n, sh, Rf, I3, L4) post)
set_option maxHeartbeats 4000000 in
set_option maxRecDepth 20000 in
theorem sRun_tellMonth_0 {D : va_G} {cA : FieldType → ClassId} {b : Nat} {E : State → Prop} (o : Nat) (n : Nat) (sh : Nat → qC) (Rf : Nat → Nat → Option Nat) (I : Nat → Nat → Int32) (L : Nat → Nat → Int64) (post : Option Value → qS → Prop) (uo_0 : Nat) (hok : q_ok (qGG D cA b E)) (hw : WfRun (qGG D cA b E) n sh Rf o) (huo_0 : Rf o 0 = some uo_0) (hwuo_0 : WfLand (qGG D cA b E) n sh Rf uo_0) (H : fRun_tellMonth_0 D cA b E o n sh Rf I L post uo_0) : Ev (qGG D cA b E) mRun_tellMonth 2 (0, 0) 0 [(0, .ref o)] [] (n, sh, Rf, I, L) post := by
  unfold fRun_tellMonth_0 at H
  refine ev_aload_n dRun_tellMonth_0 rfl ?_
  refine ev_callV [] [] (B' := (0, 0)) (B'' := (0, 0)) hok mmRun_askCommon mk_Run_238 (ci := 7) rfl rfl (woRun hw) rfl (Nat.le_of_ble_eq_true rfl) rfl (Nat.le_of_ble_eq_true rfl) dRun_tellMonth_1 rfl (by decide) H (fun v τ p1 => ?_)
  obtain ⟨I3, L4, rfl, rfl, H⟩ := p1
  refine ev_iconst (2) dRun_tellMonth_4 (by decide) ?_
  refine ev_istore_n dRun_tellMonth_5 (by decide) ?_
  exact ev_sub [(0, .ref o), (1, .int 2)] rfl H
def fRun_worthIn_0 (D : va_G) (cA : FieldType → ClassId) (b : Nat) (E : State → Prop) (o : Nat) (n : Nat) (sh : Nat → qC) (Rf : Nat → Nat → Option Nat) (I : Nat → Nat → Int32) (L : Nat → Nat → Int64) (post : Option Value → qS → Prop) (x1 : Int32) (x2 : Int32) (x3 : Int32) (uo_0 : Nat) (uo_1 : Nat) : Prop :=
  vp_in x1 3 ∧ ∀ y2 : Int32, ((if 1 < (I (uo_0 + 9) (x1 : Int32).toNatClampNeg) then (I (uo_0 + 9) (x1 : Int32).toNatClampNeg) else 1) : Int32) = y2 → Ev (qGG D cA b E) mOffice_monthsOfWay 0 (0, 0) 0 (lv_args 0 [.int x3]) [] (n, sh, Rf, I, L) (fun v τ => ∃ (r4 : Int32) (I5 : Nat → Nat → Int32) (L6 : Nat → Nat → Int64), v = some (.int r4) ∧ τ = (n, sh, Rf, I5, L6) ∧ vp_in x1 3 ∧ (¬ (y2 : Int32) = 0) ∧ Ev (qGG D cA b E) mRealm_priceIn 1 (0, 0) 0 (lv_args 0 [.ref ((o + 24)), .ref uo_0, .int x2]) [] (n, sh, Rf, I5, L6) (fun v τ => ∃ (r10 : Int32) (I11 : Nat → Nat → Int32) (L12 : Nat → Nat → Int64), v = some (.int r10) ∧ τ = (n, sh, Rf, I11, L12) ∧ post (some (.long (((((r10 - (I11 (o + 60) 4)) - ((x3 * (I11 uo_1 2)) / 10)) : Int32).toInt64 - (((I11 uo_1 4) : Int32).toInt64 * ((r4 + ((I5 ((o + 31) + 12) (x1 : Int32).toNatClampNeg) / y2)) : Int32).toInt64))))) (n, sh, Rf, I11, L12)))
set_option maxHeartbeats 4000000 in
set_option maxRecDepth 20000 in
theorem sRun_worthIn_0 {D : va_G} {cA : FieldType → ClassId} {b : Nat} {E : State → Prop} (o : Nat) (n : Nat) (sh : Nat → qC) (Rf : Nat → Nat → Option Nat) (I : Nat → Nat → Int32) (L : Nat → Nat → Int64) (post : Option Value → qS → Prop) (x1 : Int32) (x2 : Int32) (x3 : Int32) (uo_0 : Nat) (uo_1 : Nat) (hok : q_ok (qGG D cA b E)) (hw : WfRun (qGG D cA b E) n sh Rf o) (huo_0 : Rf o 0 = some uo_0) (hwuo_0 : WfLand (qGG D cA b E) n sh Rf uo_0) (huo_1 : Rf o 1 = some uo_1) (hwuo_1 : WfTrade (qGG D cA b E) n sh Rf uo_1) (hEN : qEN E) (H : fRun_worthIn_0 D cA b E o n sh Rf I L post x1 x2 x3 uo_0 uo_1) : Ev (qGG D cA b E) mRun_worthIn 2 (0, 0) 0 [(0, .ref o), (1, .int x1), (2, .int x2), (3, .int x3)] [] (n, sh, Rf, I, L) post := by
  unfold fRun_worthIn_0 at H
  refine ev_iconst (1) dRun_worthIn_0 (by decide) ?_
  refine ev_aload_n dRun_worthIn_1 rfl ?_
  refine ev_getR hok fk_Run_12 (woRun hw) (fun _ _ _ => rfl) huo_0 dRun_worthIn_2 ?_
  refine ev_getR hok fk_Run_388 (woLand hwuo_0) (fun _ _ _ => rfl) (wrLand_13 hwuo_0) dRun_worthIn_5 ?_
  refine ev_iload_n dRun_worthIn_8 rfl ?_
  obtain ⟨h1, H⟩ := H
  refine ev_iald hok (waLand_13 hwuo_0) h1 dRun_worthIn_9 ?_
  refine ev_mmax (by decide) (q_t5 202 (by decide +kernel) rfl) (q_t4 41 (by decide +kernel) rfl) (q_t1 19 (by decide +kernel) rfl) (q_t4 42 rfl rfl) (Nat.le_of_ble_eq_true rfl) dRun_worthIn_10 ?_
  generalize ey2 : ((if 1 < (I (uo_0 + 9) (x1 : Int32).toNatClampNeg) then (I (uo_0 + 9) (x1 : Int32).toNatClampNeg) else 1) : Int32) = y2
  have H := H y2 ey2
  refine ev_istore dRun_worthIn_13 (by decide) ?_
  refine ev_iload_n dRun_worthIn_15 rfl ?_
  refine ev_ncallS [.int x3] [] (B' := (0, 0)) (B'' := (0, 0)) hok mmOffice_monthsOfWay (nk_Run_391 hEN) rfl (Nat.le_of_ble_eq_true rfl) rfl (Nat.le_of_ble_eq_true rfl) dRun_worthIn_16 rfl (by decide) H (fun v τ p3 => ?_)
  obtain ⟨r4, I5, L6, rfl, rfl, H⟩ := p3
  refine ev_aload_n dRun_worthIn_19 rfl ?_
  refine ev_getR hok fk_Run_42 (woRun hw) (fun _ _ _ => rfl) (wrRun_4 hw) dRun_worthIn_20 ?_
  refine ev_getR hok fk_Run_317 (woPapers (wsRun_4 hw)) (fun _ _ _ => rfl) (wrPapers_11 (wsRun_4 hw)) dRun_worthIn_23 ?_
  refine ev_iload_n dRun_worthIn_26 rfl ?_
  obtain ⟨h7, H⟩ := H
  refine ev_iald hok (waPapers_11 (wsRun_4 hw)) h7 dRun_worthIn_27 ?_
  refine ev_iload dRun_worthIn_28 rfl ?_
  obtain ⟨h8, H⟩ := H
  refine ev_idiv dRun_worthIn_30 h8 ?_
  refine ev_iadd dRun_worthIn_31 ?_
  refine ev_i2l dRun_worthIn_32 ?_
  refine ev_lstore dRun_worthIn_33 (by decide) ?_
  refine ev_aload_n dRun_worthIn_35 rfl ?_
  refine ev_getR hok fk_Run_35 (woRun hw) (fun _ _ _ => rfl) (wrRun_3 hw) dRun_worthIn_36 ?_
  refine ev_aload_n dRun_worthIn_39 rfl ?_
  refine ev_getR hok fk_Run_12 (woRun hw) (fun _ _ _ => rfl) huo_0 dRun_worthIn_40 ?_
  refine ev_iload_n dRun_worthIn_43 rfl ?_
  refine ev_callV [.ref uo_0, .int x2] [] (B' := (0, 0)) (B'' := (0, 0)) hok mmRealm_priceIn mk_Run_307 (ci := 4) rfl rfl (woRealm (wsRun_3 hw)) rfl (Nat.le_of_ble_eq_true rfl) rfl (Nat.le_of_ble_eq_true rfl) dRun_worthIn_44 rfl (by decide) H (fun v τ p9 => ?_)
  obtain ⟨r10, I11, L12, rfl, rfl, H⟩ := p9
  refine ev_aload_n dRun_worthIn_47 rfl ?_
  refine ev_getR hok fk_Run_71 (woRun hw) (fun _ _ _ => rfl) (wrRun_9 hw) dRun_worthIn_48 ?_
  refine ev_iconst (4) dRun_worthIn_51 (by decide) ?_
  refine ev_iald hok (waRun_9 hw) (by unfold vp_in; decide) dRun_worthIn_52 ?_
  rw [show (4 : Int32).toNatClampNeg = 4 from rfl]
  refine ev_isub dRun_worthIn_53 ?_
  refine ev_iload_n dRun_worthIn_54 rfl ?_
  refine ev_aload_n dRun_worthIn_55 rfl ?_
  refine ev_getR hok fk_Run_21 (woRun hw) (fun _ _ _ => rfl) huo_1 dRun_worthIn_56 ?_
  refine ev_getI hok fk_Run_364 (woTrade hwuo_1) (fun _ _ _ => rfl) dRun_worthIn_59 ?_
  refine ev_imul dRun_worthIn_62 ?_
  refine ev_bipush (10) dRun_worthIn_63 (by decide) ?_
  refine ev_idiv dRun_worthIn_65 (by decide) ?_
  refine ev_isub dRun_worthIn_66 ?_
  refine ev_i2l dRun_worthIn_67 ?_
  refine ev_aload_n dRun_worthIn_68 rfl ?_
  refine ev_getR hok fk_Run_21 (woRun hw) (fun _ _ _ => rfl) huo_1 dRun_worthIn_69 ?_
  refine ev_getI hok fk_Run_394 (woTrade hwuo_1) (fun _ _ _ => rfl) dRun_worthIn_72 ?_
  refine ev_i2l dRun_worthIn_75 ?_
  refine ev_lload dRun_worthIn_76 rfl ?_
  refine ev_lmul dRun_worthIn_78 ?_
  refine ev_lsub dRun_worthIn_79 ?_
  exact ev_lret rfl dRun_worthIn_80 H
def fTape_closeLine_0 (D : va_G) (cA : FieldType → ClassId) (b : Nat) (E : State → Prop) (o : Nat) (n : Nat) (sh : Nat → qC) (Rf : Nat → Nat → Option Nat) (I : Nat → Nat → Int32) (L : Nat → Nat → Int64) (post : Option Value → qS → Prop)  : Prop :=
  Ev (qGG D cA b E) mTape_isSign 0 (0, 0) 0 (lv_args 0 [.ref o, .int 59]) [] (n, sh, Rf, I, L) (fun v τ => ∃ (r2 : Int32) (I3 : Nat → Nat → Int32) (L4 : Nat → Nat → Int64), v = some (.int r2) ∧ τ = (n, sh, Rf, I3, L4) ∧ Ev (qGG D cA b E) mTape_passIf 1 (0, 0) 0 (lv_args 0 [.ref o, .int r2]) [] (n, sh, Rf, I3, L4) (fun v τ => ∃ (I7 : Nat → Nat → Int32) (L8 : Nat → Nat → Int64), v = none ∧ τ = (n, sh, Rf, I7, L8) ∧ ((¬ (I7 o 7) = 0 → post (some (.int 0)) (n, sh, Rf, I7, L8)) ∧ ((I7 o 7) = 0 → post (some (.int 1)) (n, sh, Rf, I7, L8)))))
set_option maxHeartbeats 4000000 in
set_option maxRecDepth 20000 in
theorem sTape_closeLine_0 {D : va_G} {cA : FieldType → ClassId} {b : Nat} {E : State → Prop} (o : Nat) (n : Nat) (sh : Nat → qC) (Rf : Nat → Nat → Option Nat) (I : Nat → Nat → Int32) (L : Nat → Nat → Int64) (post : Option Value → qS → Prop)  (hok : q_ok (qGG D cA b E)) (hw : WfTape (qGG D cA b E) n sh Rf o) (H : fTape_closeLine_0 D cA b E o n sh Rf I L post ) : Ev (qGG D cA b E) mTape_closeLine 2 (0, 0) 0 [(0, .ref o)] [] (n, sh, Rf, I, L) post := by
  unfold fTape_closeLine_0 at H
  refine ev_aload_n dTape_closeLine_0 rfl ?_
  refine ev_aload_n dTape_closeLine_1 rfl ?_
  refine ev_bipush (59) dTape_closeLine_2 (by decide) ?_
  refine ev_callV [.int 59] [.ref o] (B' := (0, 0)) (B'' := (0, 0)) hok mmTape_isSign mk_Tape_106 (ci := 8) rfl rfl (woTape hw) rfl (Nat.le_of_ble_eq_true rfl) rfl (Nat.le_of_ble_eq_true rfl) dTape_closeLine_4 rfl (by decide) H (fun v τ p1 => ?_)
  obtain ⟨r2, I3, L4, rfl, rfl, H⟩ := p1
  refine ev_callV [.int r2] [] (B' := (0, 0)) (B'' := (0, 0)) hok mmTape_passIf mk_Tape_109 (ci := 8) rfl rfl (woTape hw) rfl (Nat.le_of_ble_eq_true rfl) rfl (Nat.le_of_ble_eq_true rfl) dTape_closeLine_7 rfl (by decide) H (fun v τ p5 => ?_)
  obtain ⟨I7, L8, rfl, rfl, H⟩ := p5
  refine ev_aload_n dTape_closeLine_10 rfl ?_
  refine ev_getI hok fk_Tape_35 (woTape hw) (fun _ _ _ => rfl) dTape_closeLine_11 ?_
  refine ev_if_ne 21 dTape_closeLine_14 (by decide) (fun c9 => ?_) (fun c9 => ?_)
  · have H := H.1 c9
    refine ev_iconst (0) dTape_closeLine_21 (by decide) ?_
    exact ev_zret rfl (by decide) dTape_closeLine_22 H
  · have H := H.2 c9
    refine ev_iconst (1) dTape_closeLine_17 (by decide) ?_
    refine ev_goto 22 dTape_closeLine_18 (by decide) ?_
    exact ev_zret rfl (by decide) dTape_closeLine_22 H
def fTape_cutPlace_0 (D : va_G) (cA : FieldType → ClassId) (b : Nat) (E : State → Prop) (o : Nat) (n : Nat) (sh : Nat → qC) (Rf : Nat → Nat → Option Nat) (I : Nat → Nat → Int32) (L : Nat → Nat → Int64) (post : Option Value → qS → Prop) (x1 : Int32) (x2 : Int32) : Prop :=
  vp_in x1 1601 ∧ ∀ I1 : Nat → Nat → Int32, q_u I (o + 3) (x1 : Int32).toNatClampNeg 3 = I1 → Ev (qGG D cA b E) mTape_placeAt 1 (0, 0) 0 (lv_args 0 [.ref o, .int x2]) [] (n, sh, Rf, I1, L) (fun v τ => ∃ (r4 : Int32) (I5 : Nat → Nat → Int32) (L6 : Nat → Nat → Int64), v = some (.int r4) ∧ τ = (n, sh, Rf, I5, L6) ∧ vp_in x1 1601 ∧ ∀ I7 : Nat → Nat → Int32, q_u I5 (o + 5) (x1 : Int32).toNatClampNeg r4 = I7 → Ev (qGG D cA b E) mTape_byteAt 0 (0, 0) 0 (lv_args 0 [.ref o, .int ((x2 + 2))]) [] (n, sh, Rf, I7, L6) (fun v τ => ∃ (r10 : Int32) (I11 : Nat → Nat → Int32) (L12 : Nat → Nat → Int64), v = some (.int r10) ∧ τ = (n, sh, Rf, I11, L12) ∧ Ev (qGG D cA b E) mTape_isDigit 0 (0, 0) 0 (lv_args 0 [.int r10]) [] (n, sh, Rf, I11, L12) (fun v τ => ∃ (r14 : Int32) (I15 : Nat → Nat → Int32) (L16 : Nat → Nat → Int64), v = some (.int r14) ∧ τ = (n, sh, Rf, I15, L16) ∧ ((r14 = 0 → post (some (.int ((x2 + 2)))) (n, sh, Rf, I15, L16)) ∧ (¬ r14 = 0 → post (some (.int ((x2 + 3)))) (n, sh, Rf, I15, L16))))))
set_option maxHeartbeats 4000000 in
set_option maxRecDepth 20000 in
theorem sTape_cutPlace_0 {D : va_G} {cA : FieldType → ClassId} {b : Nat} {E : State → Prop} (o : Nat) (n : Nat) (sh : Nat → qC) (Rf : Nat → Nat → Option Nat) (I : Nat → Nat → Int32) (L : Nat → Nat → Int64) (post : Option Value → qS → Prop) (x1 : Int32) (x2 : Int32) (hok : q_ok (qGG D cA b E)) (hw : WfTape (qGG D cA b E) n sh Rf o) (H : fTape_cutPlace_0 D cA b E o n sh Rf I L post x1 x2) : Ev (qGG D cA b E) mTape_cutPlace 2 (0, 0) 0 [(0, .ref o), (1, .int x1), (2, .int x2)] [] (n, sh, Rf, I, L) post := by
  unfold fTape_cutPlace_0 at H
  refine ev_aload_n dTape_cutPlace_0 rfl ?_
  refine ev_getR hok fk_Tape_19 (woTape hw) (fun _ _ _ => rfl) (wrTape_2 hw) dTape_cutPlace_1 ?_
  refine ev_iload_n dTape_cutPlace_4 rfl ?_
  refine ev_iconst (3) dTape_cutPlace_5 (by decide) ?_
  obtain ⟨h2, H⟩ := H
  refine ev_iast hok (waTape_2 hw) h2 dTape_cutPlace_6 ?_
  generalize eI1 : q_u I (o + 3) (x1 : Int32).toNatClampNeg 3 = I1
  have H := H I1 eI1
  refine ev_aload_n dTape_cutPlace_7 rfl ?_
  refine ev_getR hok fk_Tape_25 (woTape hw) (fun _ _ _ => rfl) (wrTape_4 hw) dTape_cutPlace_8 ?_
  refine ev_iload_n dTape_cutPlace_11 rfl ?_
  refine ev_aload_n dTape_cutPlace_12 rfl ?_
  refine ev_iload_n dTape_cutPlace_13 rfl ?_
  refine ev_callV [.int x2] [.int x1, .ref ((o + 5))] (B' := (0, 0)) (B'' := (0, 0)) hok mmTape_placeAt mk_Tape_75 (ci := 8) rfl rfl (woTape hw) rfl (Nat.le_of_ble_eq_true rfl) rfl (Nat.le_of_ble_eq_true rfl) dTape_cutPlace_14 rfl (by decide) H (fun v τ p3 => ?_)
  obtain ⟨r4, I5, L6, rfl, rfl, H⟩ := p3
  obtain ⟨h8, H⟩ := H
  refine ev_iast hok (waTape_4 hw) h8 dTape_cutPlace_17 ?_
  generalize eI7 : q_u I5 (o + 5) (x1 : Int32).toNatClampNeg r4 = I7
  have H := H I7 eI7
  refine ev_aload_n dTape_cutPlace_18 rfl ?_
  refine ev_iload_n dTape_cutPlace_19 rfl ?_
  refine ev_iconst (2) dTape_cutPlace_20 (by decide) ?_
  refine ev_iadd dTape_cutPlace_21 ?_
  refine ev_callV [.int ((x2 + 2))] [] (B' := (0, 0)) (B'' := (0, 0)) hok mmTape_byteAt mk_Tape_71 (ci := 8) rfl rfl (woTape hw) rfl (Nat.le_of_ble_eq_true rfl) rfl (Nat.le_of_ble_eq_true rfl) dTape_cutPlace_22 rfl (by decide) H (fun v τ p9 => ?_)
  obtain ⟨r10, I11, L12, rfl, rfl, H⟩ := p9
  refine ev_callS [.int r10] [] (B' := (0, 0)) (B'' := (0, 0)) hok mmTape_isDigit mk_Tape_84 rfl (Nat.le_of_ble_eq_true rfl) rfl (Nat.le_of_ble_eq_true rfl) dTape_cutPlace_25 rfl (by decide) H (fun v τ p13 => ?_)
  obtain ⟨r14, I15, L16, rfl, rfl, H⟩ := p13
  refine ev_if_eq 37 dTape_cutPlace_28 (by decide) (fun c17 => ?_) (fun c17 => ?_)
  · have H := H.1 c17
    refine ev_iload_n dTape_cutPlace_37 rfl ?_
    refine ev_iconst (2) dTape_cutPlace_38 (by decide) ?_
    refine ev_iadd dTape_cutPlace_39 ?_
    exact ev_iret rfl dTape_cutPlace_40 H
  · have H := H.2 c17
    refine ev_iload_n dTape_cutPlace_31 rfl ?_
    refine ev_iconst (3) dTape_cutPlace_32 (by decide) ?_
    refine ev_iadd dTape_cutPlace_33 ?_
    refine ev_goto 40 dTape_cutPlace_34 (by decide) ?_
    exact ev_iret rfl dTape_cutPlace_40 H
