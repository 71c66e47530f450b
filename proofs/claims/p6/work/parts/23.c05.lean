/-! Walks of the class: by program. -/
def fLand_readLine_67 (D : va_G) (cA : FieldType → ClassId) (b : Nat) (E : State → Prop) (o : Nat) (n : Nat) (sh : Nat → qC) (Rf : Nat → Nat → Option Nat) (I : Nat → Nat → Int32) (L : Nat → Nat → Int64) (post : Option Value → qS → Prop) (x1 : Nat) : Prop :=
  Ev (qGG D cA b E) mTape_isWord 0 (0, 0) 0 (lv_args 0 [.ref x1, .int 8]) [] (n, sh, Rf, I, L) (fun v τ => ∃ (r2 : Int32) (I3 : Nat → Nat → Int32) (L4 : Nat → Nat → Int64), v = some (.int r2) ∧ τ = (n, sh, Rf, I3, L4) ∧ ((r2 = 0 → Ev (qGG D cA b E) mTape_refuse 0 (0, 0) 0 (lv_args 0 [.ref x1, .int 2]) [] (n, sh, Rf, I3, L4) (fun v τ => ∃ (I8 : Nat → Nat → Int32) (L9 : Nat → Nat → Int64), v = none ∧ τ = (n, sh, Rf, I8, L9) ∧ post (some (.int 0)) (n, sh, Rf, I8, L9))) ∧ (¬ r2 = 0 → ((5 ≤ (I3 o 3) → Ev (qGG D cA b E) mTape_refuse 0 (0, 0) 0 (lv_args 0 [.ref x1, .int 2]) [] (n, sh, Rf, I3, L4) (fun v τ => ∃ (I13 : Nat → Nat → Int32) (L14 : Nat → Nat → Int64), v = none ∧ τ = (n, sh, Rf, I13, L14) ∧ post (some (.int 0)) (n, sh, Rf, I13, L14))) ∧ (¬ 5 ≤ (I3 o 3) → Ev (qGG D cA b E) mLand_readTown 3 (0, 0) 0 (lv_args 0 [.ref o, .ref x1]) [] (n, sh, Rf, I3, L4) (fun v τ => ∃ (r16 : Int32) (I17 : Nat → Nat → Int32) (L18 : Nat → Nat → Int64), v = some (.int r16) ∧ τ = (n, sh, Rf, I17, L18) ∧ ((r16 = 0 ∨ r16 = 1) ∧ post (some (.int r16)) (n, sh, Rf, I17, L18))))))))
set_option maxHeartbeats 4000000 in
set_option maxRecDepth 20000 in
theorem sLand_readLine_67 {D : va_G} {cA : FieldType → ClassId} {b : Nat} {E : State → Prop} (o : Nat) (n : Nat) (sh : Nat → qC) (Rf : Nat → Nat → Option Nat) (I : Nat → Nat → Int32) (L : Nat → Nat → Int64) (post : Option Value → qS → Prop) (x1 : Nat) (hok : q_ok (qGG D cA b E)) (hw : WfLand (qGG D cA b E) n sh Rf o) (hw1 : WfTape (qGG D cA b E) n sh Rf x1) (H : fLand_readLine_67 D cA b E o n sh Rf I L post x1) : Ev (qGG D cA b E) mLand_readLine 4 (0, 0) 67 [(0, .ref o), (1, .ref x1)] [] (n, sh, Rf, I, L) post := by
  unfold fLand_readLine_67 at H
  refine ev_aload_n dLand_readLine_67 rfl ?_
  refine ev_bipush (8) dLand_readLine_68 (by decide) ?_
  refine ev_callV [.int 8] [] (B' := (0, 0)) (B'' := (0, 0)) hok mmTape_isWord mk_Land_100 (ci := 8) rfl rfl (woTape hw1) rfl (Nat.le_of_ble_eq_true rfl) rfl (Nat.le_of_ble_eq_true rfl) dLand_readLine_70 rfl (by decide) H (fun v τ p1 => ?_)
  obtain ⟨r2, I3, L4, rfl, rfl, H⟩ := p1
  refine ev_if_eq 90 dLand_readLine_73 (by decide) (fun c5 => ?_) (fun c5 => ?_)
  · have H := H.1 c5
    refine ev_aload_n dLand_readLine_90 rfl ?_
    refine ev_iconst (2) dLand_readLine_91 (by decide) ?_
    refine ev_callV [.int 2] [] (B' := (0, 0)) (B'' := (0, 0)) hok mmTape_refuse mk_Land_116 (ci := 8) rfl rfl (woTape hw1) rfl (Nat.le_of_ble_eq_true rfl) rfl (Nat.le_of_ble_eq_true rfl) dLand_readLine_92 rfl (by decide) H (fun v τ p6 => ?_)
    obtain ⟨I8, L9, rfl, rfl, H⟩ := p6
    refine ev_iconst (0) dLand_readLine_95 (by decide) ?_
    exact ev_zret rfl (by decide) dLand_readLine_96 H
  · have H := H.2 c5
    refine ev_aload_n dLand_readLine_76 rfl ?_
    refine ev_getI hok fk_Land_21 (woLand hw) (fun _ _ _ => rfl) dLand_readLine_77 ?_
    refine ev_iconst (5) dLand_readLine_80 (by decide) ?_
    refine ev_icmp_ge 90 dLand_readLine_81 (by decide) (fun c10 => ?_) (fun c10 => ?_)
    · have H := H.1 c10
      refine ev_aload_n dLand_readLine_90 rfl ?_
      refine ev_iconst (2) dLand_readLine_91 (by decide) ?_
      refine ev_callV [.int 2] [] (B' := (0, 0)) (B'' := (0, 0)) hok mmTape_refuse mk_Land_116 (ci := 8) rfl rfl (woTape hw1) rfl (Nat.le_of_ble_eq_true rfl) rfl (Nat.le_of_ble_eq_true rfl) dLand_readLine_92 rfl (by decide) H (fun v τ p11 => ?_)
      obtain ⟨I13, L14, rfl, rfl, H⟩ := p11
      refine ev_iconst (0) dLand_readLine_95 (by decide) ?_
      exact ev_zret rfl (by decide) dLand_readLine_96 H
    · have H := H.2 c10
      refine ev_aload_n dLand_readLine_84 rfl ?_
      refine ev_aload_n dLand_readLine_85 rfl ?_
      refine ev_callV [.ref x1] [] (B' := (0, 0)) (B'' := (0, 0)) hok mmLand_readTown mk_Land_113 (ci := 1) rfl rfl (woLand hw) rfl (Nat.le_of_ble_eq_true rfl) rfl (Nat.le_of_ble_eq_true rfl) dLand_readLine_86 rfl (by decide) H (fun v τ p15 => ?_)
      obtain ⟨r16, I17, L18, rfl, rfl, H⟩ := p15
      exact ev_zret rfl (q_bz H.1) dLand_readLine_89 H.2
def fLand_readLine_45 (D : va_G) (cA : FieldType → ClassId) (b : Nat) (E : State → Prop) (o : Nat) (n : Nat) (sh : Nat → qC) (Rf : Nat → Nat → Option Nat) (I : Nat → Nat → Int32) (L : Nat → Nat → Int64) (post : Option Value → qS → Prop) (x1 : Nat) : Prop :=
  Ev (qGG D cA b E) mTape_isWord 0 (0, 0) 0 (lv_args 0 [.ref x1, .int 5]) [] (n, sh, Rf, I, L) (fun v τ => ∃ (r2 : Int32) (I3 : Nat → Nat → Int32) (L4 : Nat → Nat → Int64), v = some (.int r2) ∧ τ = (n, sh, Rf, I3, L4) ∧ ((r2 = 0 → fLand_readLine_67 D cA b E o n sh Rf I3 L4 post x1) ∧ (¬ r2 = 0 → ((3 ≤ (I3 o 2) → fLand_readLine_67 D cA b E o n sh Rf I3 L4 post x1) ∧ (¬ 3 ≤ (I3 o 2) → Ev (qGG D cA b E) mLand_readPan 3 (0, 0) 0 (lv_args 0 [.ref o, .ref x1]) [] (n, sh, Rf, I3, L4) (fun v τ => ∃ (r8 : Int32) (I9 : Nat → Nat → Int32) (L10 : Nat → Nat → Int64), v = some (.int r8) ∧ τ = (n, sh, Rf, I9, L10) ∧ ((r8 = 0 ∨ r8 = 1) ∧ post (some (.int r8)) (n, sh, Rf, I9, L10))))))))
set_option maxHeartbeats 4000000 in
set_option maxRecDepth 20000 in
theorem sLand_readLine_45 {D : va_G} {cA : FieldType → ClassId} {b : Nat} {E : State → Prop} (o : Nat) (n : Nat) (sh : Nat → qC) (Rf : Nat → Nat → Option Nat) (I : Nat → Nat → Int32) (L : Nat → Nat → Int64) (post : Option Value → qS → Prop) (x1 : Nat) (hok : q_ok (qGG D cA b E)) (hw : WfLand (qGG D cA b E) n sh Rf o) (hw1 : WfTape (qGG D cA b E) n sh Rf x1) (H : fLand_readLine_45 D cA b E o n sh Rf I L post x1) : Ev (qGG D cA b E) mLand_readLine 4 (0, 0) 45 [(0, .ref o), (1, .ref x1)] [] (n, sh, Rf, I, L) post := by
  unfold fLand_readLine_45 at H
  refine ev_aload_n dLand_readLine_45 rfl ?_
  refine ev_iconst (5) dLand_readLine_46 (by decide) ?_
  refine ev_callV [.int 5] [] (B' := (0, 0)) (B'' := (0, 0)) hok mmTape_isWord mk_Land_100 (ci := 8) rfl rfl (woTape hw1) rfl (Nat.le_of_ble_eq_true rfl) rfl (Nat.le_of_ble_eq_true rfl) dLand_readLine_47 rfl (by decide) H (fun v τ p1 => ?_)
  obtain ⟨r2, I3, L4, rfl, rfl, H⟩ := p1
  refine ev_if_eq 67 dLand_readLine_50 (by decide) (fun c5 => ?_) (fun c5 => ?_)
  · have H := H.1 c5
    exact ev_sub [(0, .ref o), (1, .ref x1)] rfl (sLand_readLine_67 o n sh Rf I3 L4 post x1 hok hw hw1 H)
  · have H := H.2 c5
    refine ev_aload_n dLand_readLine_53 rfl ?_
    refine ev_getI hok fk_Land_18 (woLand hw) (fun _ _ _ => rfl) dLand_readLine_54 ?_
    refine ev_iconst (3) dLand_readLine_57 (by decide) ?_
    refine ev_icmp_ge 67 dLand_readLine_58 (by decide) (fun c6 => ?_) (fun c6 => ?_)
    · have H := H.1 c6
      exact ev_sub [(0, .ref o), (1, .ref x1)] rfl (sLand_readLine_67 o n sh Rf I3 L4 post x1 hok hw hw1 H)
    · have H := H.2 c6
      refine ev_aload_n dLand_readLine_61 rfl ?_
      refine ev_aload_n dLand_readLine_62 rfl ?_
      refine ev_callV [.ref x1] [] (B' := (0, 0)) (B'' := (0, 0)) hok mmLand_readPan mk_Land_110 (ci := 1) rfl rfl (woLand hw) rfl (Nat.le_of_ble_eq_true rfl) rfl (Nat.le_of_ble_eq_true rfl) dLand_readLine_63 rfl (by decide) H (fun v τ p7 => ?_)
      obtain ⟨r8, I9, L10, rfl, rfl, H⟩ := p7
      exact ev_zret rfl (q_bz H.1) dLand_readLine_66 H.2
def fLand_readLine_23 (D : va_G) (cA : FieldType → ClassId) (b : Nat) (E : State → Prop) (o : Nat) (n : Nat) (sh : Nat → qC) (Rf : Nat → Nat → Option Nat) (I : Nat → Nat → Int32) (L : Nat → Nat → Int64) (post : Option Value → qS → Prop) (x1 : Nat) : Prop :=
  Ev (qGG D cA b E) mTape_isWord 0 (0, 0) 0 (lv_args 0 [.ref x1, .int 1]) [] (n, sh, Rf, I, L) (fun v τ => ∃ (r2 : Int32) (I3 : Nat → Nat → Int32) (L4 : Nat → Nat → Int64), v = some (.int r2) ∧ τ = (n, sh, Rf, I3, L4) ∧ ((r2 = 0 → fLand_readLine_45 D cA b E o n sh Rf I3 L4 post x1) ∧ (¬ r2 = 0 → ((3 ≤ (I3 o 1) → fLand_readLine_45 D cA b E o n sh Rf I3 L4 post x1) ∧ (¬ 3 ≤ (I3 o 1) → Ev (qGG D cA b E) mLand_readFort 3 (0, 0) 0 (lv_args 0 [.ref o, .ref x1]) [] (n, sh, Rf, I3, L4) (fun v τ => ∃ (r8 : Int32) (I9 : Nat → Nat → Int32) (L10 : Nat → Nat → Int64), v = some (.int r8) ∧ τ = (n, sh, Rf, I9, L10) ∧ ((r8 = 0 ∨ r8 = 1) ∧ post (some (.int r8)) (n, sh, Rf, I9, L10))))))))
set_option maxHeartbeats 4000000 in
set_option maxRecDepth 20000 in
theorem sLand_readLine_23 {D : va_G} {cA : FieldType → ClassId} {b : Nat} {E : State → Prop} (o : Nat) (n : Nat) (sh : Nat → qC) (Rf : Nat → Nat → Option Nat) (I : Nat → Nat → Int32) (L : Nat → Nat → Int64) (post : Option Value → qS → Prop) (x1 : Nat) (hok : q_ok (qGG D cA b E)) (hw : WfLand (qGG D cA b E) n sh Rf o) (hw1 : WfTape (qGG D cA b E) n sh Rf x1) (H : fLand_readLine_23 D cA b E o n sh Rf I L post x1) : Ev (qGG D cA b E) mLand_readLine 4 (0, 0) 23 [(0, .ref o), (1, .ref x1)] [] (n, sh, Rf, I, L) post := by
  unfold fLand_readLine_23 at H
  refine ev_aload_n dLand_readLine_23 rfl ?_
  refine ev_iconst (1) dLand_readLine_24 (by decide) ?_
  refine ev_callV [.int 1] [] (B' := (0, 0)) (B'' := (0, 0)) hok mmTape_isWord mk_Land_100 (ci := 8) rfl rfl (woTape hw1) rfl (Nat.le_of_ble_eq_true rfl) rfl (Nat.le_of_ble_eq_true rfl) dLand_readLine_25 rfl (by decide) H (fun v τ p1 => ?_)
  obtain ⟨r2, I3, L4, rfl, rfl, H⟩ := p1
  refine ev_if_eq 45 dLand_readLine_28 (by decide) (fun c5 => ?_) (fun c5 => ?_)
  · have H := H.1 c5
    exact ev_sub [(0, .ref o), (1, .ref x1)] rfl (sLand_readLine_45 o n sh Rf I3 L4 post x1 hok hw hw1 H)
  · have H := H.2 c5
    refine ev_aload_n dLand_readLine_31 rfl ?_
    refine ev_getI hok fk_Land_15 (woLand hw) (fun _ _ _ => rfl) dLand_readLine_32 ?_
    refine ev_iconst (3) dLand_readLine_35 (by decide) ?_
    refine ev_icmp_ge 45 dLand_readLine_36 (by decide) (fun c6 => ?_) (fun c6 => ?_)
    · have H := H.1 c6
      exact ev_sub [(0, .ref o), (1, .ref x1)] rfl (sLand_readLine_45 o n sh Rf I3 L4 post x1 hok hw hw1 H)
    · have H := H.2 c6
      refine ev_aload_n dLand_readLine_39 rfl ?_
      refine ev_aload_n dLand_readLine_40 rfl ?_
      refine ev_callV [.ref x1] [] (B' := (0, 0)) (B'' := (0, 0)) hok mmLand_readFort mk_Land_107 (ci := 1) rfl rfl (woLand hw) rfl (Nat.le_of_ble_eq_true rfl) rfl (Nat.le_of_ble_eq_true rfl) dLand_readLine_41 rfl (by decide) H (fun v τ p7 => ?_)
      obtain ⟨r8, I9, L10, rfl, rfl, H⟩ := p7
      exact ev_zret rfl (q_bz H.1) dLand_readLine_44 H.2
def fLand_readLine_0 (D : va_G) (cA : FieldType → ClassId) (b : Nat) (E : State → Prop) (o : Nat) (n : Nat) (sh : Nat → qC) (Rf : Nat → Nat → Option Nat) (I : Nat → Nat → Int32) (L : Nat → Nat → Int64) (post : Option Value → qS → Prop) (x1 : Nat) : Prop :=
  Ev (qGG D cA b E) mTape_isWord 0 (0, 0) 0 (lv_args 0 [.ref x1, .int 0]) [] (n, sh, Rf, I, L) (fun v τ => ∃ (r2 : Int32) (I3 : Nat → Nat → Int32) (L4 : Nat → Nat → Int64), v = some (.int r2) ∧ τ = (n, sh, Rf, I3, L4) ∧ ((r2 = 0 → fLand_readLine_23 D cA b E o n sh Rf I3 L4 post x1) ∧ (¬ r2 = 0 → ((24 ≤ (I3 o 0) → fLand_readLine_23 D cA b E o n sh Rf I3 L4 post x1) ∧ (¬ 24 ≤ (I3 o 0) → Ev (qGG D cA b E) mLand_readRoad 3 (0, 0) 0 (lv_args 0 [.ref o, .ref x1]) [] (n, sh, Rf, I3, L4) (fun v τ => ∃ (r8 : Int32) (I9 : Nat → Nat → Int32) (L10 : Nat → Nat → Int64), v = some (.int r8) ∧ τ = (n, sh, Rf, I9, L10) ∧ ((r8 = 0 ∨ r8 = 1) ∧ post (some (.int r8)) (n, sh, Rf, I9, L10))))))))
set_option maxHeartbeats 4000000 in
set_option maxRecDepth 20000 in
theorem sLand_readLine_0 {D : va_G} {cA : FieldType → ClassId} {b : Nat} {E : State → Prop} (o : Nat) (n : Nat) (sh : Nat → qC) (Rf : Nat → Nat → Option Nat) (I : Nat → Nat → Int32) (L : Nat → Nat → Int64) (post : Option Value → qS → Prop) (x1 : Nat) (hok : q_ok (qGG D cA b E)) (hw : WfLand (qGG D cA b E) n sh Rf o) (hw1 : WfTape (qGG D cA b E) n sh Rf x1) (H : fLand_readLine_0 D cA b E o n sh Rf I L post x1) : Ev (qGG D cA b E) mLand_readLine 4 (0, 0) 0 [(0, .ref o), (1, .ref x1)] [] (n, sh, Rf, I, L) post := by
  unfold fLand_readLine_0 at H
  refine ev_aload_n dLand_readLine_0 rfl ?_
  refine ev_iconst (0) dLand_readLine_1 (by decide) ?_
  refine ev_callV [.int 0] [] (B' := (0, 0)) (B'' := (0, 0)) hok mmTape_isWord mk_Land_100 (ci := 8) rfl rfl (woTape hw1) rfl (Nat.le_of_ble_eq_true rfl) rfl (Nat.le_of_ble_eq_true rfl) dLand_readLine_2 rfl (by decide) H (fun v τ p1 => ?_)
  obtain ⟨r2, I3, L4, rfl, rfl, H⟩ := p1
  refine ev_if_eq 23 dLand_readLine_5 (by decide) (fun c5 => ?_) (fun c5 => ?_)
  · have H := H.1 c5
    exact ev_sub [(0, .ref o), (1, .ref x1)] rfl (sLand_readLine_23 o n sh Rf I3 L4 post x1 hok hw hw1 H)
  · have H := H.2 c5
    refine ev_aload_n dLand_readLine_8 rfl ?_
    refine ev_getI hok fk_Land_9 (woLand hw) (fun _ _ _ => rfl) dLand_readLine_9 ?_
    refine ev_bipush (24) dLand_readLine_12 (by decide) ?_
    refine ev_icmp_ge 23 dLand_readLine_14 (by decide) (fun c6 => ?_) (fun c6 => ?_)
    · have H := H.1 c6
      exact ev_sub [(0, .ref o), (1, .ref x1)] rfl (sLand_readLine_23 o n sh Rf I3 L4 post x1 hok hw hw1 H)
    · have H := H.2 c6
      refine ev_aload_n dLand_readLine_17 rfl ?_
      refine ev_aload_n dLand_readLine_18 rfl ?_
      refine ev_callV [.ref x1] [] (B' := (0, 0)) (B'' := (0, 0)) hok mmLand_readRoad mk_Land_104 (ci := 1) rfl rfl (woLand hw) rfl (Nat.le_of_ble_eq_true rfl) rfl (Nat.le_of_ble_eq_true rfl) dLand_readLine_19 rfl (by decide) H (fun v τ p7 => ?_)
      obtain ⟨r8, I9, L10, rfl, rfl, H⟩ := p7
      exact ev_zret rfl (q_bz H.1) dLand_readLine_22 H.2
def fOffice_worth_0 (D : va_G) (cA : FieldType → ClassId) (b : Nat) (E : State → Prop) (o : Nat) (n : Nat) (sh : Nat → qC) (Rf : Nat → Nat → Option Nat) (I : Nat → Nat → Int32) (L : Nat → Nat → Int64) (post : Option Value → qS → Prop) (x1 : Int32) (uo_1 : Nat) : Prop :=
  (((I (o + 55) 15) = 0 → post (some (.long ((-1000000000000)))) (n, sh, Rf, I, L)) ∧ (¬ (I (o + 55) 15) = 0 → ((x1 < 0 → post (some (.long ((-1000000000000)))) (n, sh, Rf, I, L)) ∧ (¬ x1 < 0 → ((x1 < (I uo_1 2) → Ev (qGG D cA b E) mRun_townFor 3 (0, 0) 0 (lv_args 0 [.ref ((o + 55)), .int x1]) [] (n, sh, Rf, I, L) (fun v τ => ∃ (r5 : Int32) (I6 : Nat → Nat → Int32) (L7 : Nat → Nat → Int64), v = some (.int r5) ∧ τ = (n, sh, Rf, I6, L7) ∧ post (some (.long ((L7 (o + 55) 19)))) (n, sh, Rf, I6, L7))) ∧ (¬ x1 < (I uo_1 2) → post (some (.long ((-1000000000000)))) (n, sh, Rf, I, L)))))))
set_option maxHeartbeats 4000000 in
set_option maxRecDepth 20000 in
theorem sOffice_worth_0 {D : va_G} {cA : FieldType → ClassId} {b : Nat} {E : State → Prop} (o : Nat) (n : Nat) (sh : Nat → qC) (Rf : Nat → Nat → Option Nat) (I : Nat → Nat → Int32) (L : Nat → Nat → Int64) (post : Option Value → qS → Prop) (x1 : Int32) (uo_1 : Nat) (hok : q_ok (qGG D cA b E)) (hw : WfOffice (qGG D cA b E) n sh Rf o) (huo_1 : Rf o 1 = some uo_1) (hwuo_1 : WfLand (qGG D cA b E) n sh Rf uo_1) (H : fOffice_worth_0 D cA b E o n sh Rf I L post x1 uo_1) : Ev (qGG D cA b E) mOffice_worth 4 (0, 0) 0 [(0, .ref o), (1, .int x1)] [] (n, sh, Rf, I, L) post := by
  unfold fOffice_worth_0 at H
  refine ev_aload_n dOffice_worth_0 rfl ?_
  refine ev_getR hok fk_Office_58 (woOffice hw) (fun _ _ _ => rfl) (wrOffice_8 hw) dOffice_worth_1 ?_
  refine ev_getI hok fk_Office_79 (woRun (wsOffice_8 hw)) (fun _ _ _ => rfl) dOffice_worth_4 ?_
  refine ev_if_eq 25 dOffice_worth_7 (by decide) (fun c1 => ?_) (fun c1 => ?_)
  · have H := H.1 c1
    refine ev_ldc2 (-1000000000000) dOffice_worth_25 (q_t6 186 (by decide +kernel) rfl) ?_
    exact ev_lret rfl dOffice_worth_28 H
  · have H := H.2 c1
    refine ev_iload_n dOffice_worth_10 rfl ?_
    refine ev_if_lt 25 dOffice_worth_11 (by decide) (fun c2 => ?_) (fun c2 => ?_)
    · have H := H.1 c2
      refine ev_ldc2 (-1000000000000) dOffice_worth_25 (q_t6 186 (by decide +kernel) rfl) ?_
      exact ev_lret rfl dOffice_worth_28 H
    · have H := H.2 c2
      refine ev_iload_n dOffice_worth_14 rfl ?_
      refine ev_aload_n dOffice_worth_15 rfl ?_
      refine ev_getR hok fk_Office_19 (woOffice hw) (fun _ _ _ => rfl) huo_1 dOffice_worth_16 ?_
      refine ev_getI hok fk_Office_89 (woLand hwuo_1) (fun _ _ _ => rfl) dOffice_worth_19 ?_
      refine ev_icmp_lt 29 dOffice_worth_22 (by decide) (fun c3 => ?_) (fun c3 => ?_)
      · have H := H.1 c3
        refine ev_aload_n dOffice_worth_29 rfl ?_
        refine ev_getR hok fk_Office_58 (woOffice hw) (fun _ _ _ => rfl) (wrOffice_8 hw) dOffice_worth_30 ?_
        refine ev_iload_n dOffice_worth_33 rfl ?_
        refine ev_callV [.int x1] [] (B' := (0, 0)) (B'' := (0, 0)) hok mmRun_townFor mk_Office_221 (ci := 7) rfl rfl (woRun (wsOffice_8 hw)) rfl (Nat.le_of_ble_eq_true rfl) rfl (Nat.le_of_ble_eq_true rfl) dOffice_worth_34 rfl (by decide) H (fun v τ p4 => ?_)
        obtain ⟨r5, I6, L7, rfl, rfl, H⟩ := p4
        refine ev_pop dOffice_worth_37 rfl ?_
        refine ev_aload_n dOffice_worth_38 rfl ?_
        refine ev_getR hok fk_Office_58 (woOffice hw) (fun _ _ _ => rfl) (wrOffice_8 hw) dOffice_worth_39 ?_
        refine ev_getL hok fk_Office_225 (woRun (wsOffice_8 hw)) (fun _ _ _ => rfl) dOffice_worth_42 ?_
        exact ev_lret rfl dOffice_worth_45 H
      · have H := H.2 c3
        refine ev_ldc2 (-1000000000000) dOffice_worth_25 (q_t6 186 (by decide +kernel) rfl) ?_
        exact ev_lret rfl dOffice_worth_28 H
def fRun_buryDead_31 (D : va_G) (cA : FieldType → ClassId) (b : Nat) (E : State → Prop) (o : Nat) (n : Nat) (sh : Nat → qC) (Rf : Nat → Nat → Option Nat) (I : Nat → Nat → Int32) (L : Nat → Nat → Int64) (post : Option Value → qS → Prop) (x1 : Int32) (uo_1 : Nat) : Prop :=
  Ev (qGG D cA b E) mRun_buryDead 4 (0, 0) 2 [(0, .ref o), (1, .int ((x1 + Int32.ofInt 1)))] [] (n, sh, Rf, I, L) post
set_option maxHeartbeats 4000000 in
set_option maxRecDepth 20000 in
theorem sRun_buryDead_31 {D : va_G} {cA : FieldType → ClassId} {b : Nat} {E : State → Prop} (o : Nat) (n : Nat) (sh : Nat → qC) (Rf : Nat → Nat → Option Nat) (I : Nat → Nat → Int32) (L : Nat → Nat → Int64) (post : Option Value → qS → Prop) (x1 : Int32) (uo_1 : Nat) (hok : q_ok (qGG D cA b E)) (hw : WfRun (qGG D cA b E) n sh Rf o) (huo_1 : Rf o 1 = some uo_1) (hwuo_1 : WfTrade (qGG D cA b E) n sh Rf uo_1) (H : fRun_buryDead_31 D cA b E o n sh Rf I L post x1 uo_1) : Ev (qGG D cA b E) mRun_buryDead 4 (0, 0) 31 [(0, .ref o), (1, .int x1)] [] (n, sh, Rf, I, L) post := by
  unfold fRun_buryDead_31 at H
  refine ev_iinc dRun_buryDead_31 rfl (by decide) ?_
  refine ev_goto 2 dRun_buryDead_34 (by decide) ?_
  exact ev_sub [(0, .ref o), (1, .int ((x1 + Int32.ofInt 1)))] rfl H
def fRun_buryDead_2 (D : va_G) (cA : FieldType → ClassId) (b : Nat) (E : State → Prop) (o : Nat) (n : Nat) (sh : Nat → qC) (Rf : Nat → Nat → Option Nat) (I : Nat → Nat → Int32) (L : Nat → Nat → Int64) (post : Option Value → qS → Prop) (x1 : Int32) (uo_1 : Nat) : Prop :=
  (((I uo_1 1) ≤ x1 → post none (n, sh, Rf, I, L)) ∧ (¬ (I uo_1 1) ≤ x1 → vp_in x1 6 ∧ ((¬ (I (o + 63) (x1 : Int32).toNatClampNeg) = (I o 17) → fRun_buryDead_31 D cA b E o n sh Rf I L post x1 uo_1) ∧ ((I (o + 63) (x1 : Int32).toNatClampNeg) = (I o 17) → Ev (qGG D cA b E) mRun_bury 3 (0, 0) 0 (lv_args 0 [.ref o, .int x1]) [] (n, sh, Rf, I, L) (fun v τ => ∃ (I6 : Nat → Nat → Int32) (L7 : Nat → Nat → Int64), v = none ∧ τ = (n, sh, Rf, I6, L7) ∧ fRun_buryDead_31 D cA b E o n sh Rf I6 L7 post x1 uo_1)))))
set_option maxHeartbeats 4000000 in
set_option maxRecDepth 20000 in
theorem sRun_buryDead_2 {D : va_G} {cA : FieldType → ClassId} {b : Nat} {E : State → Prop} (o : Nat) (n : Nat) (sh : Nat → qC) (Rf : Nat → Nat → Option Nat) (I : Nat → Nat → Int32) (L : Nat → Nat → Int64) (post : Option Value → qS → Prop) (x1 : Int32) (uo_1 : Nat) (hok : q_ok (qGG D cA b E)) (hw : WfRun (qGG D cA b E) n sh Rf o) (huo_1 : Rf o 1 = some uo_1) (hwuo_1 : WfTrade (qGG D cA b E) n sh Rf uo_1) (H : fRun_buryDead_2 D cA b E o n sh Rf I L post x1 uo_1) : Ev (qGG D cA b E) mRun_buryDead 4 (0, 0) 2 [(0, .ref o), (1, .int x1)] [] (n, sh, Rf, I, L) post := by
  unfold fRun_buryDead_2 at H
  refine ev_iload_n dRun_buryDead_2 rfl ?_
  refine ev_aload_n dRun_buryDead_3 rfl ?_
  refine ev_getR hok fk_Run_21 (woRun hw) (fun _ _ _ => rfl) huo_1 dRun_buryDead_4 ?_
  refine ev_getI hok fk_Run_174 (woTrade hwuo_1) (fun _ _ _ => rfl) dRun_buryDead_7 ?_
  refine ev_icmp_ge 37 dRun_buryDead_10 (by decide) (fun c1 => ?_) (fun c1 => ?_)
  · have H := H.1 c1
    exact ev_vret rfl dRun_buryDead_37 H
  · have H := H.2 c1
    refine ev_aload_n dRun_buryDead_13 rfl ?_
    refine ev_getR hok fk_Run_81 (woRun hw) (fun _ _ _ => rfl) (wrRun_12 hw) dRun_buryDead_14 ?_
    refine ev_iload_n dRun_buryDead_17 rfl ?_
    obtain ⟨h2, H⟩ := H
    refine ev_iald hok (waRun_12 hw) h2 dRun_buryDead_18 ?_
    refine ev_aload_n dRun_buryDead_19 rfl ?_
    refine ev_getI hok fk_Run_98 (woRun hw) (fun _ _ _ => rfl) dRun_buryDead_20 ?_
    refine ev_icmp_ne 31 dRun_buryDead_23 (by decide) (fun c3 => ?_) (fun c3 => ?_)
    · have H := H.1 c3
      exact ev_sub [(0, .ref o), (1, .int x1)] rfl (sRun_buryDead_31 o n sh Rf I L post x1 uo_1 hok hw huo_1 hwuo_1 H)
    · have H := H.2 c3
      refine ev_aload_n dRun_buryDead_26 rfl ?_
      refine ev_iload_n dRun_buryDead_27 rfl ?_
      refine ev_callV [.int x1] [] (B' := (0, 0)) (B'' := (0, 0)) hok mmRun_bury mk_Run_209 (ci := 7) rfl rfl (woRun hw) rfl (Nat.le_of_ble_eq_true rfl) rfl (Nat.le_of_ble_eq_true rfl) dRun_buryDead_28 rfl (by decide) H (fun v τ p4 => ?_)
      obtain ⟨I6, L7, rfl, rfl, H⟩ := p4
      exact ev_sub [(0, .ref o), (1, .int x1)] rfl (sRun_buryDead_31 o n sh Rf I6 L7 post x1 uo_1 hok hw huo_1 hwuo_1 H)
def fRun_buryDead_0 (D : va_G) (cA : FieldType → ClassId) (b : Nat) (E : State → Prop) (o : Nat) (n : Nat) (sh : Nat → qC) (Rf : Nat → Nat → Option Nat) (I : Nat → Nat → Int32) (L : Nat → Nat → Int64) (post : Option Value → qS → Prop) (uo_1 : Nat) : Prop :=
  Ev (qGG D cA b E) mRun_buryDead 4 (0, 0) 2 [(0, .ref o), (1, .int 0)] [] (n, sh, Rf, I, L) post
set_option maxHeartbeats 4000000 in
set_option maxRecDepth 20000 in
theorem sRun_buryDead_0 {D : va_G} {cA : FieldType → ClassId} {b : Nat} {E : State → Prop} (o : Nat) (n : Nat) (sh : Nat → qC) (Rf : Nat → Nat → Option Nat) (I : Nat → Nat → Int32) (L : Nat → Nat → Int64) (post : Option Value → qS → Prop) (uo_1 : Nat) (hok : q_ok (qGG D cA b E)) (hw : WfRun (qGG D cA b E) n sh Rf o) (huo_1 : Rf o 1 = some uo_1) (hwuo_1 : WfTrade (qGG D cA b E) n sh Rf uo_1) (H : fRun_buryDead_0 D cA b E o n sh Rf I L post uo_1) : Ev (qGG D cA b E) mRun_buryDead 4 (0, 0) 0 [(0, .ref o)] [] (n, sh, Rf, I, L) post := by
  unfold fRun_buryDead_0 at H
  refine ev_iconst (0) dRun_buryDead_0 (by decide) ?_
  refine ev_istore_n dRun_buryDead_1 (by decide) ?_
  exact ev_sub [(0, .ref o), (1, .int 0)] rfl H
def fRun_drawAt_105 (D : va_G) (cA : FieldType → ClassId) (b : Nat) (E : State → Prop) (o : Nat) (n : Nat) (sh : Nat → qC) (Rf : Nat → Nat → Option Nat) (I : Nat → Nat → Int32) (L : Nat → Nat → Int64) (post : Option Value → qS → Prop) (x1 : Int32) (x2 : Int32) (x3 : Int32) (x4 : Int32) (x5 : Int32) : Prop :=
  Ev (qGG D cA b E) mRun_drawAt 4 (0, 0) 22 [(0, .ref o), (1, .int x1), (2, .int x2), (3, .int x3), (4, .int ((x4 + Int32.ofInt 1)))] [] (n, sh, Rf, I, L) post
set_option maxHeartbeats 4000000 in
set_option maxRecDepth 20000 in
theorem sRun_drawAt_105 {D : va_G} {cA : FieldType → ClassId} {b : Nat} {E : State → Prop} (o : Nat) (n : Nat) (sh : Nat → qC) (Rf : Nat → Nat → Option Nat) (I : Nat → Nat → Int32) (L : Nat → Nat → Int64) (post : Option Value → qS → Prop) (x1 : Int32) (x2 : Int32) (x3 : Int32) (x4 : Int32) (x5 : Int32) (hok : q_ok (qGG D cA b E)) (hw : WfRun (qGG D cA b E) n sh Rf o) (H : fRun_drawAt_105 D cA b E o n sh Rf I L post x1 x2 x3 x4 x5) : Ev (qGG D cA b E) mRun_drawAt 4 (0, 0) 105 [(0, .ref o), (1, .int x1), (2, .int x2), (3, .int x3), (4, .int x4), (5, .int x5)] [] (n, sh, Rf, I, L) post := by
  unfold fRun_drawAt_105 at H
  refine ev_iinc dRun_drawAt_105 rfl (by decide) ?_
  refine ev_goto 22 dRun_drawAt_108 (by decide) ?_
  exact ev_sub [(0, .ref o), (1, .int x1), (2, .int x2), (3, .int x3), (4, .int ((x4 + Int32.ofInt 1)))] rfl H
def fRun_drawAt_22 (D : va_G) (cA : FieldType → ClassId) (b : Nat) (E : State → Prop) (o : Nat) (n : Nat) (sh : Nat → qC) (Rf : Nat → Nat → Option Nat) (I : Nat → Nat → Int32) (L : Nat → Nat → Int64) (post : Option Value → qS → Prop) (x1 : Int32) (x2 : Int32) (x3 : Int32) (x4 : Int32) : Prop :=
  (((I (o + 31) 13) ≤ x4 → Ev (qGG D cA b E) mRun_drawAt 4 (0, 0) 8 [(0, .ref o), (1, .int x1), (2, .int x2), (3, .int ((x3 + Int32.ofInt 1)))] [] (n, sh, Rf, I, L) post) ∧ (¬ (I (o + 31) 13) ≤ x4 → vp_in x4 1440 ∧ vp_in (I ((o + 31) + 11) (x4 : Int32).toNatClampNeg) 1440 ∧ ((¬ (I ((o + 31) + 2) ((I ((o + 31) + 11) (x4 : Int32).toNatClampNeg) : Int32).toNatClampNeg) = x1 → fRun_drawAt_105 D cA b E o n sh Rf I L post x1 x2 x3 x4 (I ((o + 31) + 11) (x4 : Int32).toNatClampNeg)) ∧ ((I ((o + 31) + 2) ((I ((o + 31) + 11) (x4 : Int32).toNatClampNeg) : Int32).toNatClampNeg) = x1 → vp_in (I ((o + 31) + 11) (x4 : Int32).toNatClampNeg) 1440 ∧ ((¬ (I ((o + 31) + 9) ((I ((o + 31) + 11) (x4 : Int32).toNatClampNeg) : Int32).toNatClampNeg) = x3 → fRun_drawAt_105 D cA b E o n sh Rf I L post x1 x2 x3 x4 (I ((o + 31) + 11) (x4 : Int32).toNatClampNeg)) ∧ ((I ((o + 31) + 9) ((I ((o + 31) + 11) (x4 : Int32).toNatClampNeg) : Int32).toNatClampNeg) = x3 → vp_in (I ((o + 31) + 11) (x4 : Int32).toNatClampNeg) 1440 ∧ vp_in x1 3 ∧ (((I ((o + 31) + 3) ((I ((o + 31) + 11) (x4 : Int32).toNatClampNeg) : Int32).toNatClampNeg) ≤ (I ((o + 24) + 3) (x1 : Int32).toNatClampNeg) → Ev (qGG D cA b E) mRun_drawPaper 3 (0, 0) 0 (lv_args 0 [.ref o, .int ((I ((o + 31) + 11) (x4 : Int32).toNatClampNeg)), .int x1, .int x2]) [] (n, sh, Rf, I, L) (fun v τ => ∃ (I12 : Nat → Nat → Int32) (L13 : Nat → Nat → Int64), v = none ∧ τ = (n, sh, Rf, I12, L13) ∧ fRun_drawAt_105 D cA b E o n sh Rf I12 L13 post x1 x2 x3 x4 (I ((o + 31) + 11) (x4 : Int32).toNatClampNeg))) ∧ (¬ (I ((o + 31) + 3) ((I ((o + 31) + 11) (x4 : Int32).toNatClampNeg) : Int32).toNatClampNeg) ≤ (I ((o + 24) + 3) (x1 : Int32).toNatClampNeg) → post none (n, sh, Rf, I, L)))))))))
set_option maxHeartbeats 4000000 in
set_option maxRecDepth 20000 in
theorem sRun_drawAt_22 {D : va_G} {cA : FieldType → ClassId} {b : Nat} {E : State → Prop} (o : Nat) (n : Nat) (sh : Nat → qC) (Rf : Nat → Nat → Option Nat) (I : Nat → Nat → Int32) (L : Nat → Nat → Int64) (post : Option Value → qS → Prop) (x1 : Int32) (x2 : Int32) (x3 : Int32) (x4 : Int32) (hok : q_ok (qGG D cA b E)) (hw : WfRun (qGG D cA b E) n sh Rf o) (H : fRun_drawAt_22 D cA b E o n sh Rf I L post x1 x2 x3 x4) : Ev (qGG D cA b E) mRun_drawAt 4 (0, 0) 22 [(0, .ref o), (1, .int x1), (2, .int x2), (3, .int x3), (4, .int x4)] [] (n, sh, Rf, I, L) post := by
  unfold fRun_drawAt_22 at H
  refine ev_iload dRun_drawAt_22 rfl ?_
  refine ev_aload_n dRun_drawAt_24 rfl ?_
  refine ev_getR hok fk_Run_42 (woRun hw) (fun _ _ _ => rfl) (wrRun_4 hw) dRun_drawAt_25 ?_
  refine ev_getI hok fk_Run_203 (woPapers (wsRun_4 hw)) (fun _ _ _ => rfl) dRun_drawAt_28 ?_
  refine ev_icmp_ge 111 dRun_drawAt_31 (by decide) (fun c1 => ?_) (fun c1 => ?_)
  · have H := H.1 c1
    refine ev_iinc dRun_drawAt_111 rfl (by decide) ?_
    refine ev_goto 8 dRun_drawAt_114 (by decide) ?_
    exact ev_sub [(0, .ref o), (1, .int x1), (2, .int x2), (3, .int ((x3 + Int32.ofInt 1)))] rfl H
  · have H := H.2 c1
    refine ev_aload_n dRun_drawAt_34 rfl ?_
    refine ev_getR hok fk_Run_42 (woRun hw) (fun _ _ _ => rfl) (wrRun_4 hw) dRun_drawAt_35 ?_
    refine ev_getR hok fk_Run_323 (woPapers (wsRun_4 hw)) (fun _ _ _ => rfl) (wrPapers_10 (wsRun_4 hw)) dRun_drawAt_38 ?_
    refine ev_iload dRun_drawAt_41 rfl ?_
    obtain ⟨h2, H⟩ := H
    refine ev_iald hok (waPapers_10 (wsRun_4 hw)) h2 dRun_drawAt_43 ?_
    refine ev_istore dRun_drawAt_44 (by decide) ?_
    refine ev_aload_n dRun_drawAt_46 rfl ?_
    refine ev_getR hok fk_Run_42 (woRun hw) (fun _ _ _ => rfl) (wrRun_4 hw) dRun_drawAt_47 ?_
    refine ev_getR hok fk_Run_344 (woPapers (wsRun_4 hw)) (fun _ _ _ => rfl) (wrPapers_1 (wsRun_4 hw)) dRun_drawAt_50 ?_
    refine ev_iload dRun_drawAt_53 rfl ?_
    obtain ⟨h3, H⟩ := H
    refine ev_iald hok (waPapers_1 (wsRun_4 hw)) h3 dRun_drawAt_55 ?_
    refine ev_iload_n dRun_drawAt_56 rfl ?_
    refine ev_icmp_ne 105 dRun_drawAt_57 (by decide) (fun c4 => ?_) (fun c4 => ?_)
    · have H := H.1 c4
      exact ev_sub [(0, .ref o), (1, .int x1), (2, .int x2), (3, .int x3), (4, .int x4), (5, .int ((I ((o + 31) + 11) (x4 : Int32).toNatClampNeg)))] rfl (sRun_drawAt_105 o n sh Rf I L post x1 x2 x3 x4 (I ((o + 31) + 11) (x4 : Int32).toNatClampNeg) hok hw H)
    · have H := H.2 c4
      refine ev_aload_n dRun_drawAt_60 rfl ?_
      refine ev_getR hok fk_Run_42 (woRun hw) (fun _ _ _ => rfl) (wrRun_4 hw) dRun_drawAt_61 ?_
      refine ev_getR hok fk_Run_339 (woPapers (wsRun_4 hw)) (fun _ _ _ => rfl) (wrPapers_8 (wsRun_4 hw)) dRun_drawAt_64 ?_
      refine ev_iload dRun_drawAt_67 rfl ?_
      obtain ⟨h5, H⟩ := H
      refine ev_iald hok (waPapers_8 (wsRun_4 hw)) h5 dRun_drawAt_69 ?_
      refine ev_iload_n dRun_drawAt_70 rfl ?_
      refine ev_icmp_ne 105 dRun_drawAt_71 (by decide) (fun c6 => ?_) (fun c6 => ?_)
      · have H := H.1 c6
        exact ev_sub [(0, .ref o), (1, .int x1), (2, .int x2), (3, .int x3), (4, .int x4), (5, .int ((I ((o + 31) + 11) (x4 : Int32).toNatClampNeg)))] rfl (sRun_drawAt_105 o n sh Rf I L post x1 x2 x3 x4 (I ((o + 31) + 11) (x4 : Int32).toNatClampNeg) hok hw H)
      · have H := H.2 c6
        refine ev_aload_n dRun_drawAt_74 rfl ?_
        refine ev_getR hok fk_Run_42 (woRun hw) (fun _ _ _ => rfl) (wrRun_4 hw) dRun_drawAt_75 ?_
        refine ev_getR hok fk_Run_329 (woPapers (wsRun_4 hw)) (fun _ _ _ => rfl) (wrPapers_2 (wsRun_4 hw)) dRun_drawAt_78 ?_
        refine ev_iload dRun_drawAt_81 rfl ?_
        obtain ⟨h7, H⟩ := H
        refine ev_iald hok (waPapers_2 (wsRun_4 hw)) h7 dRun_drawAt_83 ?_
        refine ev_aload_n dRun_drawAt_84 rfl ?_
        refine ev_getR hok fk_Run_35 (woRun hw) (fun _ _ _ => rfl) (wrRun_3 hw) dRun_drawAt_85 ?_
        refine ev_getR hok fk_Run_231 (woRealm (wsRun_3 hw)) (fun _ _ _ => rfl) (wrRealm_2 (wsRun_3 hw)) dRun_drawAt_88 ?_
        refine ev_iload_n dRun_drawAt_91 rfl ?_
        obtain ⟨h8, H⟩ := H
        refine ev_iald hok (waRealm_2 (wsRun_3 hw)) h8 dRun_drawAt_92 ?_
        refine ev_icmp_le 97 dRun_drawAt_93 (by decide) (fun c9 => ?_) (fun c9 => ?_)
        · have H := H.1 c9
          refine ev_aload_n dRun_drawAt_97 rfl ?_
          refine ev_iload dRun_drawAt_98 rfl ?_
          refine ev_iload_n dRun_drawAt_100 rfl ?_
          refine ev_iload_n dRun_drawAt_101 rfl ?_
          refine ev_callV [.int ((I ((o + 31) + 11) (x4 : Int32).toNatClampNeg)), .int x1, .int x2] [] (B' := (0, 0)) (B'' := (0, 0)) hok mmRun_drawPaper mk_Run_345 (ci := 7) rfl rfl (woRun hw) rfl (Nat.le_of_ble_eq_true rfl) rfl (Nat.le_of_ble_eq_true rfl) dRun_drawAt_102 rfl (by decide) H (fun v τ p10 => ?_)
          obtain ⟨I12, L13, rfl, rfl, H⟩ := p10
          exact ev_sub [(0, .ref o), (1, .int x1), (2, .int x2), (3, .int x3), (4, .int x4), (5, .int ((I ((o + 31) + 11) (x4 : Int32).toNatClampNeg)))] rfl (sRun_drawAt_105 o n sh Rf I12 L13 post x1 x2 x3 x4 (I ((o + 31) + 11) (x4 : Int32).toNatClampNeg) hok hw H)
        · have H := H.2 c9
          exact ev_vret rfl dRun_drawAt_96 H
def fRun_drawAt_8 (D : va_G) (cA : FieldType → ClassId) (b : Nat) (E : State → Prop) (o : Nat) (n : Nat) (sh : Nat → qC) (Rf : Nat → Nat → Option Nat) (I : Nat → Nat → Int32) (L : Nat → Nat → Int64) (post : Option Value → qS → Prop) (x1 : Int32) (x2 : Int32) (x3 : Int32) : Prop :=
  (((I (o + 19) 6) < x3 → post none (n, sh, Rf, I, L)) ∧ (¬ (I (o + 19) 6) < x3 → Ev (qGG D cA b E) mRun_drawAt 4 (0, 0) 22 [(0, .ref o), (1, .int x1), (2, .int x2), (3, .int x3), (4, .int 0)] [] (n, sh, Rf, I, L) post))
set_option maxHeartbeats 4000000 in
set_option maxRecDepth 20000 in
theorem sRun_drawAt_8 {D : va_G} {cA : FieldType → ClassId} {b : Nat} {E : State → Prop} (o : Nat) (n : Nat) (sh : Nat → qC) (Rf : Nat → Nat → Option Nat) (I : Nat → Nat → Int32) (L : Nat → Nat → Int64) (post : Option Value → qS → Prop) (x1 : Int32) (x2 : Int32) (x3 : Int32) (hok : q_ok (qGG D cA b E)) (hw : WfRun (qGG D cA b E) n sh Rf o) (H : fRun_drawAt_8 D cA b E o n sh Rf I L post x1 x2 x3) : Ev (qGG D cA b E) mRun_drawAt 4 (0, 0) 8 [(0, .ref o), (1, .int x1), (2, .int x2), (3, .int x3)] [] (n, sh, Rf, I, L) post := by
  unfold fRun_drawAt_8 at H
  refine ev_iload_n dRun_drawAt_8 rfl ?_
  refine ev_aload_n dRun_drawAt_9 rfl ?_
  refine ev_getR hok fk_Run_28 (woRun hw) (fun _ _ _ => rfl) (wrRun_2 hw) dRun_drawAt_10 ?_
  refine ev_getI hok fk_Run_336 (woReform (wsRun_2 hw)) (fun _ _ _ => rfl) dRun_drawAt_13 ?_
  refine ev_icmp_gt 117 dRun_drawAt_16 (by decide) (fun c1 => ?_) (fun c1 => ?_)
  · have H := H.1 c1
    exact ev_vret rfl dRun_drawAt_117 H
  · have H := H.2 c1
    refine ev_iconst (0) dRun_drawAt_19 (by decide) ?_
    refine ev_istore dRun_drawAt_20 (by decide) ?_
    exact ev_sub [(0, .ref o), (1, .int x1), (2, .int x2), (3, .int x3), (4, .int 0)] rfl H
def fRun_drawAt_0 (D : va_G) (cA : FieldType → ClassId) (b : Nat) (E : State → Prop) (o : Nat) (n : Nat) (sh : Nat → qC) (Rf : Nat → Nat → Option Nat) (I : Nat → Nat → Int32) (L : Nat → Nat → Int64) (post : Option Value → qS → Prop) (x1 : Int32) : Prop :=
  Ev (qGG D cA b E) mRun_townFor 3 (0, 0) 0 (lv_args 0 [.ref o, .int x1]) [] (n, sh, Rf, I, L) (fun v τ => ∃ (r2 : Int32) (I3 : Nat → Nat → Int32) (L4 : Nat → Nat → Int64), v = some (.int r2) ∧ τ = (n, sh, Rf, I3, L4) ∧ Ev (qGG D cA b E) mRun_drawAt 4 (0, 0) 8 [(0, .ref o), (1, .int x1), (2, .int r2), (3, .int 0)] [] (n, sh, Rf, I3, L4) post)
set_option maxHeartbeats 4000000 in
set_option maxRecDepth 20000 in
theorem sRun_drawAt_0 {D : va_G} {cA : FieldType → ClassId} {b : Nat} {E : State → Prop} (o : Nat) (n : Nat) (sh : Nat → qC) (Rf : Nat → Nat → Option Nat) (I : Nat → Nat → Int32) (L : Nat → Nat → Int64) (post : Option Value → qS → Prop) (x1 : Int32) (hok : q_ok (qGG D cA b E)) (hw : WfRun (qGG D cA b E) n sh Rf o) (H : fRun_drawAt_0 D cA b E o n sh Rf I L post x1) : Ev (qGG D cA b E) mRun_drawAt 4 (0, 0) 0 [(0, .ref o), (1, .int x1)] [] (n, sh, Rf, I, L) post := by
  unfold fRun_drawAt_0 at H
  refine ev_aload_n dRun_drawAt_0 rfl ?_
  refine ev_iload_n dRun_drawAt_1 rfl ?_
  refine ev_callV [.int x1] [] (B' := (0, 0)) (B'' := (0, 0)) hok mmRun_townFor mk_Run_341 (ci := 7) rfl rfl (woRun hw) rfl (Nat.le_of_ble_eq_true rfl) rfl (Nat.le_of_ble_eq_true rfl) dRun_drawAt_2 rfl (by decide) H (fun v τ p1 => ?_)
  obtain ⟨r2, I3, L4, rfl, rfl, H⟩ := p1
  refine ev_istore_n dRun_drawAt_5 (by decide) ?_
  refine ev_iconst (0) dRun_drawAt_6 (by decide) ?_
  refine ev_istore_n dRun_drawAt_7 (by decide) ?_
  exact ev_sub [(0, .ref o), (1, .int x1), (2, .int r2), (3, .int 0)] rfl H
def fRun_takeWay_0 (D : va_G) (cA : FieldType → ClassId) (b : Nat) (E : State → Prop) (o : Nat) (n : Nat) (sh : Nat → qC) (Rf : Nat → Nat → Option Nat) (I : Nat → Nat → Int32) (L : Nat → Nat → Int64) (post : Option Value → qS → Prop) (x1 : Int32) (uo_1 : Nat) : Prop :=
  (((I (o + 58) 0) = (1 : Int32) → Ev (qGG D cA b E) mRun_carryGrain 3 (0, 0) 0 (lv_args 0 [.ref o, .int x1]) [] (n, sh, Rf, I, L) (fun v τ => ∃ (I3 : Nat → Nat → Int32) (L4 : Nat → Nat → Int64), v = none ∧ τ = (n, sh, Rf, I3, L4) ∧ post none (n, sh, Rf, I3, L4))) ∧ (¬ (I (o + 58) 0) = (1 : Int32) → (((I (o + 58) 0) = (2 : Int32) → vp_in x1 6 ∧ vp_in x1 6 ∧ ∀ L6 : Nat → Nat → Int64, q_u L (o + 61) (x1 : Int32).toNatClampNeg ((L (o + 61) (x1 : Int32).toNatClampNeg) - (((I (o + 58) 3) : Int32).toInt64 * ((I uo_1 6) : Int32).toInt64)) = L6 → vp_in (I (o + 58) 1) 3 ∧ vp_in (I (o + 58) 1) 3 ∧ ∀ I9 : Nat → Nat → Int32, q_u I ((o + 24) + 1) ((I (o + 58) 1) : Int32).toNatClampNeg ((I ((o + 24) + 1) ((I (o + 58) 1) : Int32).toNatClampNeg) + ((I (o + 58) 3) * 10)) = I9 → (((I9 (o + 58) 4) ≤ 0 → post none (n, sh, Rf, I9, L6)) ∧ (¬ (I9 (o + 58) 4) ≤ 0 → Ev (qGG D cA b E) mPapers_give 0 (0, 0) 0 (lv_args 0 [.ref ((o + 31)), .int x1, .int ((I9 (o + 58) 6)), .int ((I9 (o + 58) 4)), .int ((I9 o 17)), .int 0, .int 0]) [] (n, sh, Rf, I9, L6) (fun v τ => ∃ (I14 : Nat → Nat → Int32) (L15 : Nat → Nat → Int64), v = none ∧ τ = (n, sh, Rf, I14, L15) ∧ post none (n, sh, Rf, I14, L15))))) ∧ (¬ (I (o + 58) 0) = (2 : Int32) → (((I (o + 58) 0) = (3 : Int32) → vp_in x1 6 ∧ vp_in x1 6 ∧ ∀ L17 : Nat → Nat → Int64, q_u L (o + 61) (x1 : Int32).toNatClampNeg ((L (o + 61) (x1 : Int32).toNatClampNeg) - ((I uo_1 5) : Int32).toInt64) = L17 → vp_in ((x1 * 3) + (I (o + 58) 1)) 18 ∧ ∀ I19 : Nat → Nat → Int32, q_u I (o + 62) (((x1 * 3) + (I (o + 58) 1)) : Int32).toNatClampNeg (I o 17) = I19 → post none (n, sh, Rf, I19, L17)) ∧ (¬ (I (o + 58) 0) = (3 : Int32) → (((I (o + 58) 0) = (4 : Int32) → vp_in x1 6 ∧ vp_in x1 6 ∧ ∀ L22 : Nat → Nat → Int64, q_u L (o + 61) (x1 : Int32).toNatClampNeg ((L (o + 61) (x1 : Int32).toNatClampNeg) - (((I (o + 58) 4) : Int32).toInt64 * ((I (o + 60) 2) : Int32).toInt64)) = L22 → ∀ L24 : Nat → Nat → Int64, q_u L22 (o + 65) 2 ((L22 (o + 65) 2) + (((I (o + 58) 4) : Int32).toInt64 * ((I (o + 60) 2) : Int32).toInt64)) = L24 → ∀ I25 : Nat → Nat → Int32, q_u I o 18 ((I o 18) - (I (o + 58) 4)) = I25 → Ev (qGG D cA b E) mPapers_give 0 (0, 0) 0 (lv_args 0 [.ref ((o + 31)), .int x1, .int ((I25 (o + 58) 6)), .int ((I25 (o + 58) 4)), .int ((I25 o 17)), .int 0, .int 1]) [] (n, sh, Rf, I25, L24) (fun v τ => ∃ (I28 : Nat → Nat → Int32) (L29 : Nat → Nat → Int64), v = none ∧ τ = (n, sh, Rf, I28, L29) ∧ post none (n, sh, Rf, I28, L29))) ∧ (¬ (I (o + 58) 0) = (4 : Int32) → post none (n, sh, Rf, I, L)))))))))
set_option maxHeartbeats 4000000 in
set_option maxRecDepth 20000 in
theorem sRun_takeWay_0 {D : va_G} {cA : FieldType → ClassId} {b : Nat} {E : State → Prop} (o : Nat) (n : Nat) (sh : Nat → qC) (Rf : Nat → Nat → Option Nat) (I : Nat → Nat → Int32) (L : Nat → Nat → Int64) (post : Option Value → qS → Prop) (x1 : Int32) (uo_1 : Nat) (hok : q_ok (qGG D cA b E)) (hw : WfRun (qGG D cA b E) n sh Rf o) (huo_1 : Rf o 1 = some uo_1) (hwuo_1 : WfTrade (qGG D cA b E) n sh Rf uo_1) (H : fRun_takeWay_0 D cA b E o n sh Rf I L post x1 uo_1) : Ev (qGG D cA b E) mRun_takeWay 4 (0, 0) 0 [(0, .ref o), (1, .int x1)] [] (n, sh, Rf, I, L) post := by
  unfold fRun_takeWay_0 at H
  refine ev_aload_n dRun_takeWay_0 rfl ?_
  refine ev_getR hok fk_Run_63 (woRun hw) (fun _ _ _ => rfl) (wrRun_7 hw) dRun_takeWay_1 ?_
  refine ev_getI hok fk_Run_414 (woWay (wsRun_7 hw)) (fun _ _ _ => rfl) dRun_takeWay_4 ?_
  rcases q_em ((I (o + 58) 0) = (1)) with c0 | c0
  · have H := H.1 c0
    refine ev_tableIn 36 dRun_takeWay_7 (by rw [c0]; decide) (by rw [c0]; decide) (off := 29) (by rw [c0]; rfl) (by decide) ?_
    refine ev_aload_n dRun_takeWay_36 rfl ?_
    refine ev_iload_n dRun_takeWay_37 rfl ?_
    refine ev_callV [.int x1] [] (B' := (0, 0)) (B'' := (0, 0)) hok mmRun_carryGrain mk_Run_420 (ci := 7) rfl rfl (woRun hw) rfl (Nat.le_of_ble_eq_true rfl) rfl (Nat.le_of_ble_eq_true rfl) dRun_takeWay_38 rfl (by decide) H (fun v τ p1 => ?_)
    obtain ⟨I3, L4, rfl, rfl, H⟩ := p1
    refine ev_goto 263 dRun_takeWay_41 (by decide) ?_
    exact ev_vret rfl dRun_takeWay_263 H
  have H := H.2 c0
  rcases q_em ((I (o + 58) 0) = (2)) with c1 | c1
  · have H := H.1 c1
    refine ev_tableIn 44 dRun_takeWay_7 (by rw [c1]; decide) (by rw [c1]; decide) (off := 37) (by rw [c1]; rfl) (by decide) ?_
    refine ev_aload_n dRun_takeWay_44 rfl ?_
    refine ev_getR hok fk_Run_74 (woRun hw) (fun _ _ _ => rfl) (wrRun_10 hw) dRun_takeWay_45 ?_
    refine ev_iload_n dRun_takeWay_48 rfl ?_
    refine ev_dup2_11 dRun_takeWay_49 rfl rfl ?_
    obtain ⟨h5, H⟩ := H
    refine ev_lald hok (waRun_10 hw) h5 dRun_takeWay_50 ?_
    refine ev_aload_n dRun_takeWay_51 rfl ?_
    refine ev_getR hok fk_Run_63 (woRun hw) (fun _ _ _ => rfl) (wrRun_7 hw) dRun_takeWay_52 ?_
    refine ev_getI hok fk_Run_423 (woWay (wsRun_7 hw)) (fun _ _ _ => rfl) dRun_takeWay_55 ?_
    refine ev_i2l dRun_takeWay_58 ?_
    refine ev_aload_n dRun_takeWay_59 rfl ?_
    refine ev_getR hok fk_Run_21 (woRun hw) (fun _ _ _ => rfl) huo_1 dRun_takeWay_60 ?_
    refine ev_getI hok fk_Run_426 (woTrade hwuo_1) (fun _ _ _ => rfl) dRun_takeWay_63 ?_
    refine ev_i2l dRun_takeWay_66 ?_
    refine ev_lmul dRun_takeWay_67 ?_
    refine ev_lsub dRun_takeWay_68 ?_
    obtain ⟨h7, H⟩ := H
    refine ev_last hok (waRun_10 hw) h7 dRun_takeWay_69 ?_
    generalize eL6 : q_u L (o + 61) (x1 : Int32).toNatClampNeg ((L (o + 61) (x1 : Int32).toNatClampNeg) - (((I (o + 58) 3) : Int32).toInt64 * ((I uo_1 6) : Int32).toInt64)) = L6
    have H := H L6 eL6
    refine ev_aload_n dRun_takeWay_70 rfl ?_
    refine ev_getR hok fk_Run_35 (woRun hw) (fun _ _ _ => rfl) (wrRun_3 hw) dRun_takeWay_71 ?_
    refine ev_getR hok fk_Run_264 (woRealm (wsRun_3 hw)) (fun _ _ _ => rfl) (wrRealm_0 (wsRun_3 hw)) dRun_takeWay_74 ?_
    refine ev_aload_n dRun_takeWay_77 rfl ?_
    refine ev_getR hok fk_Run_63 (woRun hw) (fun _ _ _ => rfl) (wrRun_7 hw) dRun_takeWay_78 ?_
    refine ev_getI hok fk_Run_429 (woWay (wsRun_7 hw)) (fun _ _ _ => rfl) dRun_takeWay_81 ?_
    refine ev_dup2_11 dRun_takeWay_84 rfl rfl ?_
    obtain ⟨h8, H⟩ := H
    refine ev_iald hok (waRealm_0 (wsRun_3 hw)) h8 dRun_takeWay_85 ?_
    refine ev_aload_n dRun_takeWay_86 rfl ?_
    refine ev_getR hok fk_Run_63 (woRun hw) (fun _ _ _ => rfl) (wrRun_7 hw) dRun_takeWay_87 ?_
    refine ev_getI hok fk_Run_423 (woWay (wsRun_7 hw)) (fun _ _ _ => rfl) dRun_takeWay_90 ?_
    refine ev_bipush (10) dRun_takeWay_93 (by decide) ?_
    refine ev_imul dRun_takeWay_95 ?_
    refine ev_iadd dRun_takeWay_96 ?_
    obtain ⟨h10, H⟩ := H
    refine ev_iast hok (waRealm_0 (wsRun_3 hw)) h10 dRun_takeWay_97 ?_
    generalize eI9 : q_u I ((o + 24) + 1) ((I (o + 58) 1) : Int32).toNatClampNeg ((I ((o + 24) + 1) ((I (o + 58) 1) : Int32).toNatClampNeg) + ((I (o + 58) 3) * 10)) = I9
    have H := H I9 eI9
    refine ev_aload_n dRun_takeWay_98 rfl ?_
    refine ev_getR hok fk_Run_63 (woRun hw) (fun _ _ _ => rfl) (wrRun_7 hw) dRun_takeWay_99 ?_
    refine ev_getI hok fk_Run_432 (woWay (wsRun_7 hw)) (fun _ _ _ => rfl) dRun_takeWay_102 ?_
    refine ev_if_le 263 dRun_takeWay_105 (by decide) (fun c11 => ?_) (fun c11 => ?_)
    · have H := H.1 c11
      exact ev_vret rfl dRun_takeWay_263 H
    · have H := H.2 c11
      refine ev_aload_n dRun_takeWay_108 rfl ?_
      refine ev_getR hok fk_Run_42 (woRun hw) (fun _ _ _ => rfl) (wrRun_4 hw) dRun_takeWay_109 ?_
      refine ev_iload_n dRun_takeWay_112 rfl ?_
      refine ev_aload_n dRun_takeWay_113 rfl ?_
      refine ev_getR hok fk_Run_63 (woRun hw) (fun _ _ _ => rfl) (wrRun_7 hw) dRun_takeWay_114 ?_
      refine ev_getI hok fk_Run_434 (woWay (wsRun_7 hw)) (fun _ _ _ => rfl) dRun_takeWay_117 ?_
      refine ev_aload_n dRun_takeWay_120 rfl ?_
      refine ev_getR hok fk_Run_63 (woRun hw) (fun _ _ _ => rfl) (wrRun_7 hw) dRun_takeWay_121 ?_
      refine ev_getI hok fk_Run_432 (woWay (wsRun_7 hw)) (fun _ _ _ => rfl) dRun_takeWay_124 ?_
      refine ev_aload_n dRun_takeWay_127 rfl ?_
      refine ev_getI hok fk_Run_98 (woRun hw) (fun _ _ _ => rfl) dRun_takeWay_128 ?_
      refine ev_iconst (0) dRun_takeWay_131 (by decide) ?_
      refine ev_iconst (0) dRun_takeWay_132 (by decide) ?_
      refine ev_callV [.int x1, .int ((I9 (o + 58) 6)), .int ((I9 (o + 58) 4)), .int ((I9 o 17)), .int 0, .int 0] [] (B' := (0, 0)) (B'' := (0, 0)) hok mmPapers_give mk_Run_303 (ci := 3) rfl rfl (woPapers (wsRun_4 hw)) rfl (Nat.le_of_ble_eq_true rfl) rfl (Nat.le_of_ble_eq_true rfl) dRun_takeWay_133 rfl (by decide) H (fun v τ p12 => ?_)
      obtain ⟨I14, L15, rfl, rfl, H⟩ := p12
      refine ev_goto 263 dRun_takeWay_136 (by decide) ?_
      exact ev_vret rfl dRun_takeWay_263 H
  have H := H.2 c1
  rcases q_em ((I (o + 58) 0) = (3)) with c2 | c2
  · have H := H.1 c2
    refine ev_tableIn 139 dRun_takeWay_7 (by rw [c2]; decide) (by rw [c2]; decide) (off := 132) (by rw [c2]; rfl) (by decide) ?_
    refine ev_aload_n dRun_takeWay_139 rfl ?_
    refine ev_getR hok fk_Run_74 (woRun hw) (fun _ _ _ => rfl) (wrRun_10 hw) dRun_takeWay_140 ?_
    refine ev_iload_n dRun_takeWay_143 rfl ?_
    refine ev_dup2_11 dRun_takeWay_144 rfl rfl ?_
    obtain ⟨h16, H⟩ := H
    refine ev_lald hok (waRun_10 hw) h16 dRun_takeWay_145 ?_
    refine ev_aload_n dRun_takeWay_146 rfl ?_
    refine ev_getR hok fk_Run_21 (woRun hw) (fun _ _ _ => rfl) huo_1 dRun_takeWay_147 ?_
    refine ev_getI hok fk_Run_437 (woTrade hwuo_1) (fun _ _ _ => rfl) dRun_takeWay_150 ?_
    refine ev_i2l dRun_takeWay_153 ?_
    refine ev_lsub dRun_takeWay_154 ?_
    obtain ⟨h18, H⟩ := H
    refine ev_last hok (waRun_10 hw) h18 dRun_takeWay_155 ?_
    generalize eL17 : q_u L (o + 61) (x1 : Int32).toNatClampNeg ((L (o + 61) (x1 : Int32).toNatClampNeg) - ((I uo_1 5) : Int32).toInt64) = L17
    have H := H L17 eL17
    refine ev_aload_n dRun_takeWay_156 rfl ?_
    refine ev_getR hok fk_Run_78 (woRun hw) (fun _ _ _ => rfl) (wrRun_11 hw) dRun_takeWay_157 ?_
    refine ev_iload_n dRun_takeWay_160 rfl ?_
    refine ev_iconst (3) dRun_takeWay_161 (by decide) ?_
    refine ev_imul dRun_takeWay_162 ?_
    refine ev_aload_n dRun_takeWay_163 rfl ?_
    refine ev_getR hok fk_Run_63 (woRun hw) (fun _ _ _ => rfl) (wrRun_7 hw) dRun_takeWay_164 ?_
    refine ev_getI hok fk_Run_429 (woWay (wsRun_7 hw)) (fun _ _ _ => rfl) dRun_takeWay_167 ?_
    refine ev_iadd dRun_takeWay_170 ?_
    refine ev_aload_n dRun_takeWay_171 rfl ?_
    refine ev_getI hok fk_Run_98 (woRun hw) (fun _ _ _ => rfl) dRun_takeWay_172 ?_
    obtain ⟨h20, H⟩ := H
    refine ev_iast hok (waRun_11 hw) h20 dRun_takeWay_175 ?_
    generalize eI19 : q_u I (o + 62) (((x1 * 3) + (I (o + 58) 1)) : Int32).toNatClampNeg (I o 17) = I19
    have H := H I19 eI19
    refine ev_goto 263 dRun_takeWay_176 (by decide) ?_
    exact ev_vret rfl dRun_takeWay_263 H
  have H := H.2 c2
  rcases q_em ((I (o + 58) 0) = (4)) with c3 | c3
  · have H := H.1 c3
    refine ev_tableIn 179 dRun_takeWay_7 (by rw [c3]; decide) (by rw [c3]; decide) (off := 172) (by rw [c3]; rfl) (by decide) ?_
    refine ev_aload_n dRun_takeWay_179 rfl ?_
    refine ev_getR hok fk_Run_63 (woRun hw) (fun _ _ _ => rfl) (wrRun_7 hw) dRun_takeWay_180 ?_
    refine ev_getI hok fk_Run_432 (woWay (wsRun_7 hw)) (fun _ _ _ => rfl) dRun_takeWay_183 ?_
    refine ev_i2l dRun_takeWay_186 ?_
    refine ev_aload_n dRun_takeWay_187 rfl ?_
    refine ev_getR hok fk_Run_71 (woRun hw) (fun _ _ _ => rfl) (wrRun_9 hw) dRun_takeWay_188 ?_
    refine ev_iconst (2) dRun_takeWay_191 (by decide) ?_
    refine ev_iald hok (waRun_9 hw) (by unfold vp_in; decide) dRun_takeWay_192 ?_
    rw [show (2 : Int32).toNatClampNeg = 2 from rfl]
    refine ev_i2l dRun_takeWay_193 ?_
    refine ev_lmul dRun_takeWay_194 ?_
    refine ev_lstore_n dRun_takeWay_195 (by decide) ?_
    refine ev_aload_n dRun_takeWay_196 rfl ?_
    refine ev_getR hok fk_Run_74 (woRun hw) (fun _ _ _ => rfl) (wrRun_10 hw) dRun_takeWay_197 ?_
    refine ev_iload_n dRun_takeWay_200 rfl ?_
    refine ev_dup2_11 dRun_takeWay_201 rfl rfl ?_
    obtain ⟨h21, H⟩ := H
    refine ev_lald hok (waRun_10 hw) h21 dRun_takeWay_202 ?_
    refine ev_lload_n dRun_takeWay_203 rfl ?_
    refine ev_lsub dRun_takeWay_204 ?_
    obtain ⟨h23, H⟩ := H
    refine ev_last hok (waRun_10 hw) h23 dRun_takeWay_205 ?_
    generalize eL22 : q_u L (o + 61) (x1 : Int32).toNatClampNeg ((L (o + 61) (x1 : Int32).toNatClampNeg) - (((I (o + 58) 4) : Int32).toInt64 * ((I (o + 60) 2) : Int32).toInt64)) = L22
    have H := H L22 eL22
    refine ev_aload_n dRun_takeWay_206 rfl ?_
    refine ev_getR hok fk_Run_87 (woRun hw) (fun _ _ _ => rfl) (wrRun_14 hw) dRun_takeWay_207 ?_
    refine ev_iconst (2) dRun_takeWay_210 (by decide) ?_
    refine ev_dup2_11 dRun_takeWay_211 rfl rfl ?_
    refine ev_lald hok (waRun_14 hw) (by unfold vp_in; decide) dRun_takeWay_212 ?_
    rw [show (2 : Int32).toNatClampNeg = 2 from rfl]
    refine ev_lload_n dRun_takeWay_213 rfl ?_
    refine ev_ladd dRun_takeWay_214 ?_
    refine ev_last hok (waRun_14 hw) (by unfold vp_in; decide) dRun_takeWay_215 ?_
    rw [show (2 : Int32).toNatClampNeg = 2 from rfl]
    generalize eL24 : q_u L22 (o + 65) 2 ((L22 (o + 65) 2) + (((I (o + 58) 4) : Int32).toInt64 * ((I (o + 60) 2) : Int32).toInt64)) = L24
    have H := H L24 eL24
    refine ev_aload_n dRun_takeWay_216 rfl ?_
    refine ev_dup dRun_takeWay_217 rfl ?_
    refine ev_getI hok fk_Run_101 (woRun hw) (fun _ _ _ => rfl) dRun_takeWay_218 ?_
    refine ev_aload_n dRun_takeWay_221 rfl ?_
    refine ev_getR hok fk_Run_63 (woRun hw) (fun _ _ _ => rfl) (wrRun_7 hw) dRun_takeWay_222 ?_
    refine ev_getI hok fk_Run_432 (woWay (wsRun_7 hw)) (fun _ _ _ => rfl) dRun_takeWay_225 ?_
    refine ev_isub dRun_takeWay_228 ?_
    refine ev_putI hok fk_Run_101 (woRun hw) (fun _ _ _ => rfl) rfl rfl dRun_takeWay_229 ?_
    generalize eI25 : q_u I o 18 ((I o 18) - (I (o + 58) 4)) = I25
    have H := H I25 eI25
    refine ev_aload_n dRun_takeWay_232 rfl ?_
    refine ev_getR hok fk_Run_42 (woRun hw) (fun _ _ _ => rfl) (wrRun_4 hw) dRun_takeWay_233 ?_
    refine ev_iload_n dRun_takeWay_236 rfl ?_
    refine ev_aload_n dRun_takeWay_237 rfl ?_
    refine ev_getR hok fk_Run_63 (woRun hw) (fun _ _ _ => rfl) (wrRun_7 hw) dRun_takeWay_238 ?_
    refine ev_getI hok fk_Run_434 (woWay (wsRun_7 hw)) (fun _ _ _ => rfl) dRun_takeWay_241 ?_
    refine ev_aload_n dRun_takeWay_244 rfl ?_
    refine ev_getR hok fk_Run_63 (woRun hw) (fun _ _ _ => rfl) (wrRun_7 hw) dRun_takeWay_245 ?_
    refine ev_getI hok fk_Run_432 (woWay (wsRun_7 hw)) (fun _ _ _ => rfl) dRun_takeWay_248 ?_
    refine ev_aload_n dRun_takeWay_251 rfl ?_
    refine ev_getI hok fk_Run_98 (woRun hw) (fun _ _ _ => rfl) dRun_takeWay_252 ?_
    refine ev_iconst (0) dRun_takeWay_255 (by decide) ?_
    refine ev_iconst (1) dRun_takeWay_256 (by decide) ?_
    refine ev_callV [.int x1, .int ((I25 (o + 58) 6)), .int ((I25 (o + 58) 4)), .int ((I25 o 17)), .int 0, .int 1] [] (B' := (0, 0)) (B'' := (0, 0)) hok mmPapers_give mk_Run_303 (ci := 3) rfl rfl (woPapers (wsRun_4 hw)) rfl (Nat.le_of_ble_eq_true rfl) rfl (Nat.le_of_ble_eq_true rfl) dRun_takeWay_257 rfl (by decide) H (fun v τ p26 => ?_)
    obtain ⟨I28, L29, rfl, rfl, H⟩ := p26
    refine ev_goto 263 dRun_takeWay_260 (by decide) ?_
    exact ev_vret rfl dRun_takeWay_263 H
  have H := H.2 c3
  refine ev_tableOut 263 dRun_takeWay_7 (by have e0 : (1 : Int) ≠ ((I (o + 58) 0) : Int32).toInt := fun h => c0 (Int32.toInt_inj.mp (h.symm.trans (by decide))); have e1 : (2 : Int) ≠ ((I (o + 58) 0) : Int32).toInt := fun h => c1 (Int32.toInt_inj.mp (h.symm.trans (by decide))); have e2 : (3 : Int) ≠ ((I (o + 58) 0) : Int32).toInt := fun h => c2 (Int32.toInt_inj.mp (h.symm.trans (by decide))); have e3 : (4 : Int) ≠ ((I (o + 58) 0) : Int32).toInt := fun h => c3 (Int32.toInt_inj.mp (h.symm.trans (by decide))); omega) (by decide) ?_
  exact ev_vret rfl dRun_takeWay_263 H
def fWay_choose_89 (D : va_G) (cA : FieldType → ClassId) (b : Nat) (E : State → Prop) (o : Nat) (n : Nat) (sh : Nat → qC) (Rf : Nat → Nat → Option Nat) (I : Nat → Nat → Int32) (L : Nat → Nat → Int64) (post : Option Value → qS → Prop) (x1 : Nat) (x2 : Int32) (x3 : Int32) (ux1_0 : Nat) : Prop :=
  Ev (qGG D cA b E) mWay_choose 4 (0, 0) 44 [(0, .ref o), (1, .ref x1), (2, .int x2), (3, .int ((x3 + Int32.ofInt 1)))] [] (n, sh, Rf, I, L) post
set_option maxHeartbeats 4000000 in
set_option maxRecDepth 20000 in
theorem sWay_choose_89 {D : va_G} {cA : FieldType → ClassId} {b : Nat} {E : State → Prop} (o : Nat) (n : Nat) (sh : Nat → qC) (Rf : Nat → Nat → Option Nat) (I : Nat → Nat → Int32) (L : Nat → Nat → Int64) (post : Option Value → qS → Prop) (x1 : Nat) (x2 : Int32) (x3 : Int32) (ux1_0 : Nat) (hok : q_ok (qGG D cA b E)) (hw : WfWay (qGG D cA b E) n sh Rf o) (hw1 : WfRun (qGG D cA b E) n sh Rf x1) (hux1_0 : Rf x1 0 = some ux1_0) (hwux1_0 : WfLand (qGG D cA b E) n sh Rf ux1_0) (H : fWay_choose_89 D cA b E o n sh Rf I L post x1 x2 x3 ux1_0) : Ev (qGG D cA b E) mWay_choose 4 (0, 0) 89 [(0, .ref o), (1, .ref x1), (2, .int x2), (3, .int x3)] [] (n, sh, Rf, I, L) post := by
  unfold fWay_choose_89 at H
  refine ev_iinc dWay_choose_89 rfl (by decide) ?_
  refine ev_goto 44 dWay_choose_92 (by decide) ?_
  exact ev_sub [(0, .ref o), (1, .ref x1), (2, .int x2), (3, .int ((x3 + Int32.ofInt 1)))] rfl H
def fWay_choose_44 (D : va_G) (cA : FieldType → ClassId) (b : Nat) (E : State → Prop) (o : Nat) (n : Nat) (sh : Nat → qC) (Rf : Nat → Nat → Option Nat) (I : Nat → Nat → Int32) (L : Nat → Nat → Int64) (post : Option Value → qS → Prop) (x1 : Nat) (x2 : Int32) (x3 : Int32) (ux1_0 : Nat) : Prop :=
  (((I ux1_0 2) ≤ x3 → (((I o 6) = (-1) → post none (n, sh, Rf, I, L)) ∧ (¬ (I o 6) = (-1) → Ev (qGG D cA b E) mWay_weighCarrying 3 (0, 0) 0 (lv_args 0 [.ref o, .ref x1, .int x2]) [] (n, sh, Rf, I, L) (fun v τ => ∃ (I5 : Nat → Nat → Int32) (L6 : Nat → Nat → Int64), v = none ∧ τ = (n, sh, Rf, I5, L6) ∧ Ev (qGG D cA b E) mWay_weighFarming 3 (0, 0) 0 (lv_args 0 [.ref o, .ref x1, .int x2]) [] (n, sh, Rf, I5, L6) (fun v τ => ∃ (I9 : Nat → Nat → Int32) (L10 : Nat → Nat → Int64), v = none ∧ τ = (n, sh, Rf, I9, L10) ∧ Ev (qGG D cA b E) mWay_weighFounding 3 (0, 0) 0 (lv_args 0 [.ref o, .ref x1, .int x2]) [] (n, sh, Rf, I9, L10) (fun v τ => ∃ (I13 : Nat → Nat → Int32) (L14 : Nat → Nat → Int64), v = none ∧ τ = (n, sh, Rf, I13, L14) ∧ Ev (qGG D cA b E) mWay_weighBuying 2 (0, 0) 0 (lv_args 0 [.ref o, .ref x1, .int x2]) [] (n, sh, Rf, I13, L14) (fun v τ => ∃ (I17 : Nat → Nat → Int32) (L18 : Nat → Nat → Int64), v = none ∧ τ = (n, sh, Rf, I17, L18) ∧ post none (n, sh, Rf, I17, L18)))))))) ∧ (¬ (I ux1_0 2) ≤ x3 → Ev (qGG D cA b E) mRun_townFor 3 (0, 0) 0 (lv_args 0 [.ref x1, .int x3]) [] (n, sh, Rf, I, L) (fun v τ => ∃ (r20 : Int32) (I21 : Nat → Nat → Int32) (L22 : Nat → Nat → Int64), v = some (.int r20) ∧ τ = (n, sh, Rf, I21, L22) ∧ ((r20 = (-1) → fWay_choose_89 D cA b E o n sh Rf I21 L22 post x1 x2 x3 ux1_0) ∧ (¬ r20 = (-1) → (((lg_cmp (L22 x1 19) (L22 o 7)) ≤ 0 → fWay_choose_89 D cA b E o n sh Rf I21 L22 post x1 x2 x3 ux1_0) ∧ (¬ (lg_cmp (L22 x1 19) (L22 o 7)) ≤ 0 → ∀ I25 : Nat → Nat → Int32, q_u I21 o 6 x3 = I25 → ∀ L26 : Nat → Nat → Int64, q_u L22 o 7 (L22 x1 19) = L26 → fWay_choose_89 D cA b E o n sh Rf I25 L26 post x1 x2 x3 ux1_0)))))))
set_option maxHeartbeats 4000000 in
set_option maxRecDepth 20000 in
theorem sWay_choose_44 {D : va_G} {cA : FieldType → ClassId} {b : Nat} {E : State → Prop} (o : Nat) (n : Nat) (sh : Nat → qC) (Rf : Nat → Nat → Option Nat) (I : Nat → Nat → Int32) (L : Nat → Nat → Int64) (post : Option Value → qS → Prop) (x1 : Nat) (x2 : Int32) (x3 : Int32) (ux1_0 : Nat) (hok : q_ok (qGG D cA b E)) (hw : WfWay (qGG D cA b E) n sh Rf o) (hw1 : WfRun (qGG D cA b E) n sh Rf x1) (hux1_0 : Rf x1 0 = some ux1_0) (hwux1_0 : WfLand (qGG D cA b E) n sh Rf ux1_0) (H : fWay_choose_44 D cA b E o n sh Rf I L post x1 x2 x3 ux1_0) : Ev (qGG D cA b E) mWay_choose 4 (0, 0) 44 [(0, .ref o), (1, .ref x1), (2, .int x2), (3, .int x3)] [] (n, sh, Rf, I, L) post := by
  unfold fWay_choose_44 at H
  refine ev_iload_n dWay_choose_44 rfl ?_
  refine ev_aload_n dWay_choose_45 rfl ?_
  refine ev_getR hok fk_Way_39 (woRun hw1) (fun _ _ _ => rfl) hux1_0 dWay_choose_46 ?_
  refine ev_getI hok fk_Way_45 (woLand hwux1_0) (fun _ _ _ => rfl) dWay_choose_49 ?_
  refine ev_icmp_ge 95 dWay_choose_52 (by decide) (fun c1 => ?_) (fun c1 => ?_)
  · have H := H.1 c1
    refine ev_aload_n dWay_choose_95 rfl ?_
    refine ev_getI hok fk_Way_31 (woWay hw) (fun _ _ _ => rfl) dWay_choose_96 ?_
    refine ev_iconst (-1) dWay_choose_99 (by decide) ?_
    refine ev_icmp_eq 127 dWay_choose_100 (by decide) (fun c2 => ?_) (fun c2 => ?_)
    · have H := H.1 c2
      exact ev_vret rfl dWay_choose_127 H
    · have H := H.2 c2
      refine ev_aload_n dWay_choose_103 rfl ?_
      refine ev_aload_n dWay_choose_104 rfl ?_
      refine ev_iload_n dWay_choose_105 rfl ?_
      refine ev_callV [.ref x1, .int x2] [] (B' := (0, 0)) (B'' := (0, 0)) hok mmWay_weighCarrying mk_Way_57 (ci := 10) rfl rfl (woWay hw) rfl (Nat.le_of_ble_eq_true rfl) rfl (Nat.le_of_ble_eq_true rfl) dWay_choose_106 rfl (by decide) H (fun v τ p3 => ?_)
      obtain ⟨I5, L6, rfl, rfl, H⟩ := p3
      refine ev_aload_n dWay_choose_109 rfl ?_
      refine ev_aload_n dWay_choose_110 rfl ?_
      refine ev_iload_n dWay_choose_111 rfl ?_
      refine ev_callV [.ref x1, .int x2] [] (B' := (0, 0)) (B'' := (0, 0)) hok mmWay_weighFarming mk_Way_61 (ci := 10) rfl rfl (woWay hw) rfl (Nat.le_of_ble_eq_true rfl) rfl (Nat.le_of_ble_eq_true rfl) dWay_choose_112 rfl (by decide) H (fun v τ p7 => ?_)
      obtain ⟨I9, L10, rfl, rfl, H⟩ := p7
      refine ev_aload_n dWay_choose_115 rfl ?_
      refine ev_aload_n dWay_choose_116 rfl ?_
      refine ev_iload_n dWay_choose_117 rfl ?_
      refine ev_callV [.ref x1, .int x2] [] (B' := (0, 0)) (B'' := (0, 0)) hok mmWay_weighFounding mk_Way_64 (ci := 10) rfl rfl (woWay hw) rfl (Nat.le_of_ble_eq_true rfl) rfl (Nat.le_of_ble_eq_true rfl) dWay_choose_118 rfl (by decide) H (fun v τ p11 => ?_)
      obtain ⟨I13, L14, rfl, rfl, H⟩ := p11
      refine ev_aload_n dWay_choose_121 rfl ?_
      refine ev_aload_n dWay_choose_122 rfl ?_
      refine ev_iload_n dWay_choose_123 rfl ?_
      refine ev_callV [.ref x1, .int x2] [] (B' := (0, 0)) (B'' := (0, 0)) hok mmWay_weighBuying mk_Way_67 (ci := 10) rfl rfl (woWay hw) rfl (Nat.le_of_ble_eq_true rfl) rfl (Nat.le_of_ble_eq_true rfl) dWay_choose_124 rfl (by decide) H (fun v τ p15 => ?_)
      obtain ⟨I17, L18, rfl, rfl, H⟩ := p15
      exact ev_vret rfl dWay_choose_127 H
  · have H := H.2 c1
    refine ev_aload_n dWay_choose_55 rfl ?_
    refine ev_iload_n dWay_choose_56 rfl ?_
    refine ev_callV [.int x3] [] (B' := (0, 0)) (B'' := (0, 0)) hok mmRun_townFor mk_Way_50 (ci := 7) rfl rfl (woRun hw1) rfl (Nat.le_of_ble_eq_true rfl) rfl (Nat.le_of_ble_eq_true rfl) dWay_choose_57 rfl (by decide) H (fun v τ p19 => ?_)
    obtain ⟨r20, I21, L22, rfl, rfl, H⟩ := p19
    refine ev_iconst (-1) dWay_choose_60 (by decide) ?_
    refine ev_icmp_eq 89 dWay_choose_61 (by decide) (fun c23 => ?_) (fun c23 => ?_)
    · have H := H.1 c23
      exact ev_sub [(0, .ref o), (1, .ref x1), (2, .int x2), (3, .int x3)] rfl (sWay_choose_89 o n sh Rf I21 L22 post x1 x2 x3 ux1_0 hok hw hw1 hux1_0 hwux1_0 H)
    · have H := H.2 c23
      refine ev_aload_n dWay_choose_64 rfl ?_
      refine ev_getL hok fk_Way_54 (woRun hw1) (fun _ _ _ => rfl) dWay_choose_65 ?_
      refine ev_aload_n dWay_choose_68 rfl ?_
      refine ev_getL hok fk_Way_34 (woWay hw) (fun _ _ _ => rfl) dWay_choose_69 ?_
      refine ev_lcmp dWay_choose_72 ?_
      refine ev_if_le 89 dWay_choose_73 (by decide) (fun c24 => ?_) (fun c24 => ?_)
      · have H := H.1 c24
        exact ev_sub [(0, .ref o), (1, .ref x1), (2, .int x2), (3, .int x3)] rfl (sWay_choose_89 o n sh Rf I21 L22 post x1 x2 x3 ux1_0 hok hw hw1 hux1_0 hwux1_0 H)
      · have H := H.2 c24
        refine ev_aload_n dWay_choose_76 rfl ?_
        refine ev_iload_n dWay_choose_77 rfl ?_
        refine ev_putI hok fk_Way_31 (woWay hw) (fun _ _ _ => rfl) rfl rfl dWay_choose_78 ?_
        generalize eI25 : q_u I21 o 6 x3 = I25
        have H := H I25 eI25
        refine ev_aload_n dWay_choose_81 rfl ?_
        refine ev_aload_n dWay_choose_82 rfl ?_
        refine ev_getL hok fk_Way_54 (woRun hw1) (fun _ _ _ => rfl) dWay_choose_83 ?_
        refine ev_putL hok fk_Way_34 (woWay hw) (fun _ _ _ => rfl) rfl rfl dWay_choose_86 ?_
        generalize eL26 : q_u L22 o 7 (L22 x1 19) = L26
        have H := H L26 eL26
        exact ev_sub [(0, .ref o), (1, .ref x1), (2, .int x2), (3, .int x3)] rfl (sWay_choose_89 o n sh Rf I25 L26 post x1 x2 x3 ux1_0 hok hw hw1 hux1_0 hwux1_0 H)
def fWay_choose_0 (D : va_G) (cA : FieldType → ClassId) (b : Nat) (E : State → Prop) (o : Nat) (n : Nat) (sh : Nat → qC) (Rf : Nat → Nat → Option Nat) (I : Nat → Nat → Int32) (L : Nat → Nat → Int64) (post : Option Value → qS → Prop) (x1 : Nat) (x2 : Int32) (ux1_0 : Nat) : Prop :=
  ∀ I1 : Nat → Nat → Int32, q_u I o 0 0 = I1 → ∀ I2 : Nat → Nat → Int32, q_u I1 o 1 (-1) = I2 → ∀ I3 : Nat → Nat → Int32, q_u I2 o 2 (-1) = I3 → ∀ I4 : Nat → Nat → Int32, q_u I3 o 3 0 = I4 → ∀ I5 : Nat → Nat → Int32, q_u I4 o 4 0 = I5 → ∀ L6 : Nat → Nat → Int64, q_u L o 5 0 = L6 → ∀ I7 : Nat → Nat → Int32, q_u I5 o 6 (-1) = I7 → ∀ L8 : Nat → Nat → Int64, q_u L6 o 7 (-1000000000000) = L8 → Ev (qGG D cA b E) mWay_choose 4 (0, 0) 44 [(0, .ref o), (1, .ref x1), (2, .int x2), (3, .int 0)] [] (n, sh, Rf, I7, L8) post
set_option maxHeartbeats 4000000 in
set_option maxRecDepth 20000 in
theorem sWay_choose_0 {D : va_G} {cA : FieldType → ClassId} {b : Nat} {E : State → Prop} (o : Nat) (n : Nat) (sh : Nat → qC) (Rf : Nat → Nat → Option Nat) (I : Nat → Nat → Int32) (L : Nat → Nat → Int64) (post : Option Value → qS → Prop) (x1 : Nat) (x2 : Int32) (ux1_0 : Nat) (hok : q_ok (qGG D cA b E)) (hw : WfWay (qGG D cA b E) n sh Rf o) (hw1 : WfRun (qGG D cA b E) n sh Rf x1) (hux1_0 : Rf x1 0 = some ux1_0) (hwux1_0 : WfLand (qGG D cA b E) n sh Rf ux1_0) (H : fWay_choose_0 D cA b E o n sh Rf I L post x1 x2 ux1_0) : Ev (qGG D cA b E) mWay_choose 4 (0, 0) 0 [(0, .ref o), (1, .ref x1), (2, .int x2)] [] (n, sh, Rf, I, L) post := by
  unfold fWay_choose_0 at H
  refine ev_aload_n dWay_choose_0 rfl ?_
  refine ev_iconst (0) dWay_choose_1 (by decide) ?_
  refine ev_putI hok fk_Way_9 (woWay hw) (fun _ _ _ => rfl) rfl rfl dWay_choose_2 ?_
  generalize eI1 : q_u I o 0 0 = I1
  have H := H I1 eI1
  refine ev_aload_n dWay_choose_5 rfl ?_
  refine ev_iconst (-1) dWay_choose_6 (by decide) ?_
  refine ev_putI hok fk_Way_15 (woWay hw) (fun _ _ _ => rfl) rfl rfl dWay_choose_7 ?_
  generalize eI2 : q_u I1 o 1 (-1) = I2
  have H := H I2 eI2
  refine ev_aload_n dWay_choose_10 rfl ?_
  refine ev_iconst (-1) dWay_choose_11 (by decide) ?_
  refine ev_putI hok fk_Way_18 (woWay hw) (fun _ _ _ => rfl) rfl rfl dWay_choose_12 ?_
  generalize eI3 : q_u I2 o 2 (-1) = I3
  have H := H I3 eI3
  refine ev_aload_n dWay_choose_15 rfl ?_
  refine ev_iconst (0) dWay_choose_16 (by decide) ?_
  refine ev_putI hok fk_Way_21 (woWay hw) (fun _ _ _ => rfl) rfl rfl dWay_choose_17 ?_
  generalize eI4 : q_u I3 o 3 0 = I4
  have H := H I4 eI4
  refine ev_aload_n dWay_choose_20 rfl ?_
  refine ev_iconst (0) dWay_choose_21 (by decide) ?_
  refine ev_putI hok fk_Way_24 (woWay hw) (fun _ _ _ => rfl) rfl rfl dWay_choose_22 ?_
  generalize eI5 : q_u I4 o 4 0 = I5
  have H := H I5 eI5
  refine ev_aload_n dWay_choose_25 rfl ?_
  refine ev_lconst 0 dWay_choose_26 (by decide) ?_
  refine ev_putL hok fk_Way_27 (woWay hw) (fun _ _ _ => rfl) rfl rfl dWay_choose_27 ?_
  generalize eL6 : q_u L o 5 0 = L6
  have H := H L6 eL6
  refine ev_aload_n dWay_choose_30 rfl ?_
  refine ev_iconst (-1) dWay_choose_31 (by decide) ?_
  refine ev_putI hok fk_Way_31 (woWay hw) (fun _ _ _ => rfl) rfl rfl dWay_choose_32 ?_
  generalize eI7 : q_u I5 o 6 (-1) = I7
  have H := H I7 eI7
  refine ev_aload_n dWay_choose_35 rfl ?_
  refine ev_ldc2 (-1000000000000) dWay_choose_36 (q_t6 64 (by decide +kernel) rfl) ?_
  refine ev_putL hok fk_Way_34 (woWay hw) (fun _ _ _ => rfl) rfl rfl dWay_choose_39 ?_
  generalize eL8 : q_u L6 o 7 (-1000000000000) = L8
  have H := H L8 eL8
  refine ev_iconst (0) dWay_choose_42 (by decide) ?_
  refine ev_istore_n dWay_choose_43 (by decide) ?_
  exact ev_sub [(0, .ref o), (1, .ref x1), (2, .int x2), (3, .int 0)] rfl H
def fOffice_way_0 (D : va_G) (cA : FieldType → ClassId) (b : Nat) (E : State → Prop) (o : Nat) (n : Nat) (sh : Nat → qC) (Rf : Nat → Nat → Option Nat) (I : Nat → Nat → Int32) (L : Nat → Nat → Int64) (post : Option Value → qS → Prop) (x1 : Int32) (x2 : Int32) : Prop :=
  (((I (o + 55) 15) = 0 → post (some (.long ((-1)))) (n, sh, Rf, I, L)) ∧ (¬ (I (o + 55) 15) = 0 → ((x1 < 0 → post (some (.long ((-1)))) (n, sh, Rf, I, L)) ∧ (¬ x1 < 0 → (((I (o + 46) 1) ≤ x1 → post (some (.long ((-1)))) (n, sh, Rf, I, L)) ∧ (¬ (I (o + 46) 1) ≤ x1 → Ev (qGG D cA b E) mRun_isDead 0 (0, 0) 0 (lv_args 0 [.ref ((o + 55)), .int x1]) [] (n, sh, Rf, I, L) (fun v τ => ∃ (r5 : Int32) (I6 : Nat → Nat → Int32) (L7 : Nat → Nat → Int64), v = some (.int r5) ∧ τ = (n, sh, Rf, I6, L7) ∧ ((r5 = 0 → Ev (qGG D cA b E) mWay_choose 4 (0, 0) 0 (lv_args 0 [.ref (((o + 55) + 58)), .ref ((o + 55)), .int x1]) [] (n, sh, Rf, I6, L7) (fun v τ => ∃ (I11 : Nat → Nat → Int32) (L12 : Nat → Nat → Int64), v = none ∧ τ = (n, sh, Rf, I11, L12) ∧ ((x2 = (0 : Int32) → post (some (.long (((I11 ((o + 55) + 58) 0) : Int32).toInt64))) (n, sh, Rf, I11, L12)) ∧ (¬ x2 = (0 : Int32) → ((x2 = (1 : Int32) → post (some (.long (((I11 ((o + 55) + 58) 1) : Int32).toInt64))) (n, sh, Rf, I11, L12)) ∧ (¬ x2 = (1 : Int32) → ((x2 = (2 : Int32) → post (some (.long (((I11 ((o + 55) + 58) 2) : Int32).toInt64))) (n, sh, Rf, I11, L12)) ∧ (¬ x2 = (2 : Int32) → ((x2 = (3 : Int32) → post (some (.long (((I11 ((o + 55) + 58) 3) : Int32).toInt64))) (n, sh, Rf, I11, L12)) ∧ (¬ x2 = (3 : Int32) → ((x2 = (4 : Int32) → post (some (.long ((L12 ((o + 55) + 58) 5)))) (n, sh, Rf, I11, L12)) ∧ (¬ x2 = (4 : Int32) → post (some (.long ((-1)))) (n, sh, Rf, I11, L12))))))))))))) ∧ (¬ r5 = 0 → post (some (.long ((-1)))) (n, sh, Rf, I6, L7))))))))))
set_option maxHeartbeats 4000000 in
set_option maxRecDepth 20000 in
theorem sOffice_way_0 {D : va_G} {cA : FieldType → ClassId} {b : Nat} {E : State → Prop} (o : Nat) (n : Nat) (sh : Nat → qC) (Rf : Nat → Nat → Option Nat) (I : Nat → Nat → Int32) (L : Nat → Nat → Int64) (post : Option Value → qS → Prop) (x1 : Int32) (x2 : Int32) (hok : q_ok (qGG D cA b E)) (hw : WfOffice (qGG D cA b E) n sh Rf o) (H : fOffice_way_0 D cA b E o n sh Rf I L post x1 x2) : Ev (qGG D cA b E) mOffice_way 5 (0, 0) 0 [(0, .ref o), (1, .int x1), (2, .int x2)] [] (n, sh, Rf, I, L) post := by
  unfold fOffice_way_0 at H
  refine ev_aload_n dOffice_way_0 rfl ?_
  refine ev_getR hok fk_Office_58 (woOffice hw) (fun _ _ _ => rfl) (wrOffice_8 hw) dOffice_way_1 ?_
  refine ev_getI hok fk_Office_79 (woRun (wsOffice_8 hw)) (fun _ _ _ => rfl) dOffice_way_4 ?_
  refine ev_if_eq 36 dOffice_way_7 (by decide) (fun c1 => ?_) (fun c1 => ?_)
  · have H := H.1 c1
    refine ev_ldc2 (-1) dOffice_way_36 (q_t6 147 (by decide +kernel) rfl) ?_
    exact ev_lret rfl dOffice_way_39 H
  · have H := H.2 c1
    refine ev_iload_n dOffice_way_10 rfl ?_
    refine ev_if_lt 36 dOffice_way_11 (by decide) (fun c2 => ?_) (fun c2 => ?_)
    · have H := H.1 c2
      refine ev_ldc2 (-1) dOffice_way_36 (q_t6 147 (by decide +kernel) rfl) ?_
      exact ev_lret rfl dOffice_way_39 H
    · have H := H.2 c2
      refine ev_iload_n dOffice_way_14 rfl ?_
      refine ev_aload_n dOffice_way_15 rfl ?_
      refine ev_getR hok fk_Office_40 (woOffice hw) (fun _ _ _ => rfl) (wrOffice_5 hw) dOffice_way_16 ?_
      refine ev_getI hok fk_Office_109 (woTrade (wsOffice_5 hw)) (fun _ _ _ => rfl) dOffice_way_19 ?_
      refine ev_icmp_ge 36 dOffice_way_22 (by decide) (fun c3 => ?_) (fun c3 => ?_)
      · have H := H.1 c3
        refine ev_ldc2 (-1) dOffice_way_36 (q_t6 147 (by decide +kernel) rfl) ?_
        exact ev_lret rfl dOffice_way_39 H
      · have H := H.2 c3
        refine ev_aload_n dOffice_way_25 rfl ?_
        refine ev_getR hok fk_Office_58 (woOffice hw) (fun _ _ _ => rfl) (wrOffice_8 hw) dOffice_way_26 ?_
        refine ev_iload_n dOffice_way_29 rfl ?_
        refine ev_callV [.int x1] [] (B' := (0, 0)) (B'' := (0, 0)) hok mmRun_isDead mk_Office_190 (ci := 7) rfl rfl (woRun (wsOffice_8 hw)) rfl (Nat.le_of_ble_eq_true rfl) rfl (Nat.le_of_ble_eq_true rfl) dOffice_way_30 rfl (by decide) H (fun v τ p4 => ?_)
        obtain ⟨r5, I6, L7, rfl, rfl, H⟩ := p4
        refine ev_if_eq 40 dOffice_way_33 (by decide) (fun c8 => ?_) (fun c8 => ?_)
        · have H := H.1 c8
          refine ev_aload_n dOffice_way_40 rfl ?_
          refine ev_getR hok fk_Office_58 (woOffice hw) (fun _ _ _ => rfl) (wrOffice_8 hw) dOffice_way_41 ?_
          refine ev_getR hok fk_Office_193 (woRun (wsOffice_8 hw)) (fun _ _ _ => rfl) (wrRun_7 (wsOffice_8 hw)) dOffice_way_44 ?_
          refine ev_astore_n dOffice_way_47 (by decide) ?_
          refine ev_aload_n dOffice_way_48 rfl ?_
          refine ev_aload_n dOffice_way_49 rfl ?_
          refine ev_getR hok fk_Office_58 (woOffice hw) (fun _ _ _ => rfl) (wrOffice_8 hw) dOffice_way_50 ?_
          refine ev_iload_n dOffice_way_53 rfl ?_
          refine ev_callV [.ref ((o + 55)), .int x1] [] (B' := (0, 0)) (B'' := (0, 0)) hok mmWay_choose mk_Office_197 (ci := 10) rfl rfl (woWay (wsRun_7 (wsOffice_8 hw))) rfl (Nat.le_of_ble_eq_true rfl) rfl (Nat.le_of_ble_eq_true rfl) dOffice_way_54 rfl (by decide) H (fun v τ p9 => ?_)
          obtain ⟨I11, L12, rfl, rfl, H⟩ := p9
          refine ev_iload_n dOffice_way_57 rfl ?_
          rcases q_em (x2 = (0)) with c0 | c0
          · have H := H.1 c0
            refine ev_tableIn 92 dOffice_way_58 (by rw [c0]; decide) (by rw [c0]; decide) (off := 34) (by rw [c0]; rfl) (by decide) ?_
            refine ev_aload_n dOffice_way_92 rfl ?_
            refine ev_getI hok fk_Office_203 (woWay (wsRun_7 (wsOffice_8 hw))) (fun _ _ _ => rfl) dOffice_way_93 ?_
            refine ev_i2l dOffice_way_96 ?_
            exact ev_lret rfl dOffice_way_97 H
          have H := H.2 c0
          rcases q_em (x2 = (1)) with c1 | c1
          · have H := H.1 c1
            refine ev_tableIn 98 dOffice_way_58 (by rw [c1]; decide) (by rw [c1]; decide) (off := 40) (by rw [c1]; rfl) (by decide) ?_
            refine ev_aload_n dOffice_way_98 rfl ?_
            refine ev_getI hok fk_Office_206 (woWay (wsRun_7 (wsOffice_8 hw))) (fun _ _ _ => rfl) dOffice_way_99 ?_
            refine ev_i2l dOffice_way_102 ?_
            exact ev_lret rfl dOffice_way_103 H
          have H := H.2 c1
          rcases q_em (x2 = (2)) with c2 | c2
          · have H := H.1 c2
            refine ev_tableIn 104 dOffice_way_58 (by rw [c2]; decide) (by rw [c2]; decide) (off := 46) (by rw [c2]; rfl) (by decide) ?_
            refine ev_aload_n dOffice_way_104 rfl ?_
            refine ev_getI hok fk_Office_209 (woWay (wsRun_7 (wsOffice_8 hw))) (fun _ _ _ => rfl) dOffice_way_105 ?_
            refine ev_i2l dOffice_way_108 ?_
            exact ev_lret rfl dOffice_way_109 H
          have H := H.2 c2
          rcases q_em (x2 = (3)) with c3 | c3
          · have H := H.1 c3
            refine ev_tableIn 110 dOffice_way_58 (by rw [c3]; decide) (by rw [c3]; decide) (off := 52) (by rw [c3]; rfl) (by decide) ?_
            refine ev_aload_n dOffice_way_110 rfl ?_
            refine ev_getI hok fk_Office_212 (woWay (wsRun_7 (wsOffice_8 hw))) (fun _ _ _ => rfl) dOffice_way_111 ?_
            refine ev_i2l dOffice_way_114 ?_
            exact ev_lret rfl dOffice_way_115 H
          have H := H.2 c3
          rcases q_em (x2 = (4)) with c4 | c4
          · have H := H.1 c4
            refine ev_tableIn 116 dOffice_way_58 (by rw [c4]; decide) (by rw [c4]; decide) (off := 58) (by rw [c4]; rfl) (by decide) ?_
            refine ev_aload_n dOffice_way_116 rfl ?_
            refine ev_getL hok fk_Office_215 (woWay (wsRun_7 (wsOffice_8 hw))) (fun _ _ _ => rfl) dOffice_way_117 ?_
            exact ev_lret rfl dOffice_way_120 H
          have H := H.2 c4
          refine ev_tableOut 121 dOffice_way_58 (by have e0 : (0 : Int) ≠ (x2 : Int32).toInt := fun h => c0 (Int32.toInt_inj.mp (h.symm.trans (by decide))); have e1 : (1 : Int) ≠ (x2 : Int32).toInt := fun h => c1 (Int32.toInt_inj.mp (h.symm.trans (by decide))); have e2 : (2 : Int) ≠ (x2 : Int32).toInt := fun h => c2 (Int32.toInt_inj.mp (h.symm.trans (by decide))); have e3 : (3 : Int) ≠ (x2 : Int32).toInt := fun h => c3 (Int32.toInt_inj.mp (h.symm.trans (by decide))); have e4 : (4 : Int) ≠ (x2 : Int32).toInt := fun h => c4 (Int32.toInt_inj.mp (h.symm.trans (by decide))); omega) (by decide) ?_
          refine ev_ldc2 (-1) dOffice_way_121 (q_t6 147 (by decide +kernel) rfl) ?_
          exact ev_lret rfl dOffice_way_124 H
        · have H := H.2 c8
          refine ev_ldc2 (-1) dOffice_way_36 (q_t6 147 (by decide +kernel) rfl) ?_
          exact ev_lret rfl dOffice_way_39 H
def fRun_drawPapers_41 (D : va_G) (cA : FieldType → ClassId) (b : Nat) (E : State → Prop) (o : Nat) (n : Nat) (sh : Nat → qC) (Rf : Nat → Nat → Option Nat) (I : Nat → Nat → Int32) (L : Nat → Nat → Int64) (post : Option Value → qS → Prop) (x1 : Int32) (uo_0 : Nat) : Prop :=
  Ev (qGG D cA b E) mRun_drawPapers 5 (0, 0) 13 [(0, .ref o), (1, .int ((x1 + Int32.ofInt 1)))] [] (n, sh, Rf, I, L) post
set_option maxHeartbeats 4000000 in
set_option maxRecDepth 20000 in
theorem sRun_drawPapers_41 {D : va_G} {cA : FieldType → ClassId} {b : Nat} {E : State → Prop} (o : Nat) (n : Nat) (sh : Nat → qC) (Rf : Nat → Nat → Option Nat) (I : Nat → Nat → Int32) (L : Nat → Nat → Int64) (post : Option Value → qS → Prop) (x1 : Int32) (uo_0 : Nat) (hok : q_ok (qGG D cA b E)) (hw : WfRun (qGG D cA b E) n sh Rf o) (huo_0 : Rf o 0 = some uo_0) (hwuo_0 : WfLand (qGG D cA b E) n sh Rf uo_0) (H : fRun_drawPapers_41 D cA b E o n sh Rf I L post x1 uo_0) : Ev (qGG D cA b E) mRun_drawPapers 5 (0, 0) 41 [(0, .ref o), (1, .int x1)] [] (n, sh, Rf, I, L) post := by
  unfold fRun_drawPapers_41 at H
  refine ev_iinc dRun_drawPapers_41 rfl (by decide) ?_
  refine ev_goto 13 dRun_drawPapers_44 (by decide) ?_
  exact ev_sub [(0, .ref o), (1, .int ((x1 + Int32.ofInt 1)))] rfl H
def fRun_drawPapers_13 (D : va_G) (cA : FieldType → ClassId) (b : Nat) (E : State → Prop) (o : Nat) (n : Nat) (sh : Nat → qC) (Rf : Nat → Nat → Option Nat) (I : Nat → Nat → Int32) (L : Nat → Nat → Int64) (post : Option Value → qS → Prop) (x1 : Int32) (uo_0 : Nat) : Prop :=
  (((I uo_0 2) ≤ x1 → post none (n, sh, Rf, I, L)) ∧ (¬ (I uo_0 2) ≤ x1 → vp_in x1 3 ∧ (((I ((o + 31) + 12) (x1 : Int32).toNatClampNeg) ≤ 0 → fRun_drawPapers_41 D cA b E o n sh Rf I L post x1 uo_0) ∧ (¬ (I ((o + 31) + 12) (x1 : Int32).toNatClampNeg) ≤ 0 → Ev (qGG D cA b E) mRun_drawAt 4 (0, 0) 0 (lv_args 0 [.ref o, .int x1]) [] (n, sh, Rf, I, L) (fun v τ => ∃ (I6 : Nat → Nat → Int32) (L7 : Nat → Nat → Int64), v = none ∧ τ = (n, sh, Rf, I6, L7) ∧ fRun_drawPapers_41 D cA b E o n sh Rf I6 L7 post x1 uo_0)))))
set_option maxHeartbeats 4000000 in
set_option maxRecDepth 20000 in
theorem sRun_drawPapers_13 {D : va_G} {cA : FieldType → ClassId} {b : Nat} {E : State → Prop} (o : Nat) (n : Nat) (sh : Nat → qC) (Rf : Nat → Nat → Option Nat) (I : Nat → Nat → Int32) (L : Nat → Nat → Int64) (post : Option Value → qS → Prop) (x1 : Int32) (uo_0 : Nat) (hok : q_ok (qGG D cA b E)) (hw : WfRun (qGG D cA b E) n sh Rf o) (huo_0 : Rf o 0 = some uo_0) (hwuo_0 : WfLand (qGG D cA b E) n sh Rf uo_0) (H : fRun_drawPapers_13 D cA b E o n sh Rf I L post x1 uo_0) : Ev (qGG D cA b E) mRun_drawPapers 5 (0, 0) 13 [(0, .ref o), (1, .int x1)] [] (n, sh, Rf, I, L) post := by
  unfold fRun_drawPapers_13 at H
  refine ev_iload_n dRun_drawPapers_13 rfl ?_
  refine ev_aload_n dRun_drawPapers_14 rfl ?_
  refine ev_getR hok fk_Run_12 (woRun hw) (fun _ _ _ => rfl) huo_0 dRun_drawPapers_15 ?_
  refine ev_getI hok fk_Run_225 (woLand hwuo_0) (fun _ _ _ => rfl) dRun_drawPapers_18 ?_
  refine ev_icmp_ge 47 dRun_drawPapers_21 (by decide) (fun c1 => ?_) (fun c1 => ?_)
  · have H := H.1 c1
    exact ev_vret rfl dRun_drawPapers_47 H
  · have H := H.2 c1
    refine ev_aload_n dRun_drawPapers_24 rfl ?_
    refine ev_getR hok fk_Run_42 (woRun hw) (fun _ _ _ => rfl) (wrRun_4 hw) dRun_drawPapers_25 ?_
    refine ev_getR hok fk_Run_317 (woPapers (wsRun_4 hw)) (fun _ _ _ => rfl) (wrPapers_11 (wsRun_4 hw)) dRun_drawPapers_28 ?_
    refine ev_iload_n dRun_drawPapers_31 rfl ?_
    obtain ⟨h2, H⟩ := H
    refine ev_iald hok (waPapers_11 (wsRun_4 hw)) h2 dRun_drawPapers_32 ?_
    refine ev_if_le 41 dRun_drawPapers_33 (by decide) (fun c3 => ?_) (fun c3 => ?_)
    · have H := H.1 c3
      exact ev_sub [(0, .ref o), (1, .int x1)] rfl (sRun_drawPapers_41 o n sh Rf I L post x1 uo_0 hok hw huo_0 hwuo_0 H)
    · have H := H.2 c3
      refine ev_aload_n dRun_drawPapers_36 rfl ?_
      refine ev_iload_n dRun_drawPapers_37 rfl ?_
      refine ev_callV [.int x1] [] (B' := (0, 0)) (B'' := (0, 0)) hok mmRun_drawAt mk_Run_320 (ci := 7) rfl rfl (woRun hw) rfl (Nat.le_of_ble_eq_true rfl) rfl (Nat.le_of_ble_eq_true rfl) dRun_drawPapers_38 rfl (by decide) H (fun v τ p4 => ?_)
      obtain ⟨I6, L7, rfl, rfl, H⟩ := p4
      exact ev_sub [(0, .ref o), (1, .int x1)] rfl (sRun_drawPapers_41 o n sh Rf I6 L7 post x1 uo_0 hok hw huo_0 hwuo_0 H)
def fRun_drawPapers_0 (D : va_G) (cA : FieldType → ClassId) (b : Nat) (E : State → Prop) (o : Nat) (n : Nat) (sh : Nat → qC) (Rf : Nat → Nat → Option Nat) (I : Nat → Nat → Int32) (L : Nat → Nat → Int64) (post : Option Value → qS → Prop) (uo_0 : Nat) : Prop :=
  Ev (qGG D cA b E) mPapers_closeQueue 1 (0, 0) 0 (lv_args 0 [.ref ((o + 31))]) [] (n, sh, Rf, I, L) (fun v τ => ∃ (I3 : Nat → Nat → Int32) (L4 : Nat → Nat → Int64), v = none ∧ τ = (n, sh, Rf, I3, L4) ∧ Ev (qGG D cA b E) mRun_classAll 2 (0, 0) 0 (lv_args 0 [.ref o]) [] (n, sh, Rf, I3, L4) (fun v τ => ∃ (I7 : Nat → Nat → Int32) (L8 : Nat → Nat → Int64), v = none ∧ τ = (n, sh, Rf, I7, L8) ∧ Ev (qGG D cA b E) mRun_drawPapers 5 (0, 0) 13 [(0, .ref o), (1, .int 0)] [] (n, sh, Rf, I7, L8) post))
set_option maxHeartbeats 4000000 in
set_option maxRecDepth 20000 in
theorem sRun_drawPapers_0 {D : va_G} {cA : FieldType → ClassId} {b : Nat} {E : State → Prop} (o : Nat) (n : Nat) (sh : Nat → qC) (Rf : Nat → Nat → Option Nat) (I : Nat → Nat → Int32) (L : Nat → Nat → Int64) (post : Option Value → qS → Prop) (uo_0 : Nat) (hok : q_ok (qGG D cA b E)) (hw : WfRun (qGG D cA b E) n sh Rf o) (huo_0 : Rf o 0 = some uo_0) (hwuo_0 : WfLand (qGG D cA b E) n sh Rf uo_0) (H : fRun_drawPapers_0 D cA b E o n sh Rf I L post uo_0) : Ev (qGG D cA b E) mRun_drawPapers 5 (0, 0) 0 [(0, .ref o)] [] (n, sh, Rf, I, L) post := by
  unfold fRun_drawPapers_0 at H
  refine ev_aload_n dRun_drawPapers_0 rfl ?_
  refine ev_getR hok fk_Run_42 (woRun hw) (fun _ _ _ => rfl) (wrRun_4 hw) dRun_drawPapers_1 ?_
  refine ev_callV [] [] (B' := (0, 0)) (B'' := (0, 0)) hok mmPapers_closeQueue mk_Run_200 (ci := 3) rfl rfl (woPapers (wsRun_4 hw)) rfl (Nat.le_of_ble_eq_true rfl) rfl (Nat.le_of_ble_eq_true rfl) dRun_drawPapers_4 rfl (by decide) H (fun v τ p1 => ?_)
  obtain ⟨I3, L4, rfl, rfl, H⟩ := p1
  refine ev_aload_n dRun_drawPapers_7 rfl ?_
  refine ev_callV [] [] (B' := (0, 0)) (B'' := (0, 0)) hok mmRun_classAll mk_Run_314 (ci := 7) rfl rfl (woRun hw) rfl (Nat.le_of_ble_eq_true rfl) rfl (Nat.le_of_ble_eq_true rfl) dRun_drawPapers_8 rfl (by decide) H (fun v τ p5 => ?_)
  obtain ⟨I7, L8, rfl, rfl, H⟩ := p5
  refine ev_iconst (0) dRun_drawPapers_11 (by decide) ?_
  refine ev_istore_n dRun_drawPapers_12 (by decide) ?_
  exact ev_sub [(0, .ref o), (1, .int 0)] rfl H
def fRun_takeWays_90 (D : va_G) (cA : FieldType → ClassId) (b : Nat) (E : State → Prop) (o : Nat) (n : Nat) (sh : Nat → qC) (Rf : Nat → Nat → Option Nat) (I : Nat → Nat → Int32) (L : Nat → Nat → Int64) (post : Option Value → qS → Prop) (x1 : Int32) (uo_1 : Nat) : Prop :=
  Ev (qGG D cA b E) mRun_takeWays 5 (0, 0) 2 [(0, .ref o), (1, .int ((x1 + Int32.ofInt 1)))] [] (n, sh, Rf, I, L) post
set_option maxHeartbeats 4000000 in
set_option maxRecDepth 20000 in
theorem sRun_takeWays_90 {D : va_G} {cA : FieldType → ClassId} {b : Nat} {E : State → Prop} (o : Nat) (n : Nat) (sh : Nat → qC) (Rf : Nat → Nat → Option Nat) (I : Nat → Nat → Int32) (L : Nat → Nat → Int64) (post : Option Value → qS → Prop) (x1 : Int32) (uo_1 : Nat) (hok : q_ok (qGG D cA b E)) (hw : WfRun (qGG D cA b E) n sh Rf o) (huo_1 : Rf o 1 = some uo_1) (hwuo_1 : WfTrade (qGG D cA b E) n sh Rf uo_1) (H : fRun_takeWays_90 D cA b E o n sh Rf I L post x1 uo_1) : Ev (qGG D cA b E) mRun_takeWays 5 (0, 0) 90 [(0, .ref o), (1, .int x1)] [] (n, sh, Rf, I, L) post := by
  unfold fRun_takeWays_90 at H
  refine ev_iinc dRun_takeWays_90 rfl (by decide) ?_
  refine ev_goto 2 dRun_takeWays_93 (by decide) ?_
  exact ev_sub [(0, .ref o), (1, .int ((x1 + Int32.ofInt 1)))] rfl H
def fRun_takeWays_2 (D : va_G) (cA : FieldType → ClassId) (b : Nat) (E : State → Prop) (o : Nat) (n : Nat) (sh : Nat → qC) (Rf : Nat → Nat → Option Nat) (I : Nat → Nat → Int32) (L : Nat → Nat → Int64) (post : Option Value → qS → Prop) (x1 : Int32) (uo_1 : Nat) : Prop :=
  (((I uo_1 1) ≤ x1 → post none (n, sh, Rf, I, L)) ∧ (¬ (I uo_1 1) ≤ x1 → Ev (qGG D cA b E) mRun_isDead 0 (0, 0) 0 (lv_args 0 [.ref o, .int x1]) [] (n, sh, Rf, I, L) (fun v τ => ∃ (r3 : Int32) (I4 : Nat → Nat → Int32) (L5 : Nat → Nat → Int64), v = some (.int r3) ∧ τ = (n, sh, Rf, I4, L5) ∧ ((r3 = 0 → Ev (qGG D cA b E) mWay_choose 4 (0, 0) 0 (lv_args 0 [.ref ((o + 58)), .ref o, .int x1]) [] (n, sh, Rf, I4, L5) (fun v τ => ∃ (I9 : Nat → Nat → Int32) (L10 : Nat → Nat → Int64), v = none ∧ τ = (n, sh, Rf, I9, L10) ∧ Ev (qGG D cA b E) mRun_takeWay 4 (0, 0) 0 (lv_args 0 [.ref o, .int x1]) [] (n, sh, Rf, I9, L10) (fun v τ => ∃ (I13 : Nat → Nat → Int32) (L14 : Nat → Nat → Int64), v = none ∧ τ = (n, sh, Rf, I13, L14) ∧ vp_in x1 6 ∧ Ev (qGG D cA b E) mRecords_keepBook 0 (0, 0) 0 (lv_args 0 [.ref ((o + 53)), .int x1, .int ((I13 o 17)), .long ((L14 (o + 61) (x1 : Int32).toNatClampNeg)), .int ((I13 (o + 58) 0)), .long ((L14 (o + 58) 5))]) [] (n, sh, Rf, I13, L14) (fun v τ => ∃ (I18 : Nat → Nat → Int32) (L19 : Nat → Nat → Int64), v = none ∧ τ = (n, sh, Rf, I18, L19) ∧ fRun_takeWays_90 D cA b E o n sh Rf I18 L19 post x1 uo_1)))) ∧ (¬ r3 = 0 → vp_in x1 6 ∧ Ev (qGG D cA b E) mRecords_keepBook 0 (0, 0) 0 (lv_args 0 [.ref ((o + 53)), .int x1, .int ((I4 o 17)), .long ((L5 (o + 61) (x1 : Int32).toNatClampNeg)), .int ((-1)), .long 0]) [] (n, sh, Rf, I4, L5) (fun v τ => ∃ (I23 : Nat → Nat → Int32) (L24 : Nat → Nat → Int64), v = none ∧ τ = (n, sh, Rf, I23, L24) ∧ fRun_takeWays_90 D cA b E o n sh Rf I23 L24 post x1 uo_1))))))
set_option maxHeartbeats 4000000 in
set_option maxRecDepth 20000 in
theorem sRun_takeWays_2 {D : va_G} {cA : FieldType → ClassId} {b : Nat} {E : State → Prop} (o : Nat) (n : Nat) (sh : Nat → qC) (Rf : Nat → Nat → Option Nat) (I : Nat → Nat → Int32) (L : Nat → Nat → Int64) (post : Option Value → qS → Prop) (x1 : Int32) (uo_1 : Nat) (hok : q_ok (qGG D cA b E)) (hw : WfRun (qGG D cA b E) n sh Rf o) (huo_1 : Rf o 1 = some uo_1) (hwuo_1 : WfTrade (qGG D cA b E) n sh Rf uo_1) (H : fRun_takeWays_2 D cA b E o n sh Rf I L post x1 uo_1) : Ev (qGG D cA b E) mRun_takeWays 5 (0, 0) 2 [(0, .ref o), (1, .int x1)] [] (n, sh, Rf, I, L) post := by
  unfold fRun_takeWays_2 at H
  refine ev_iload_n dRun_takeWays_2 rfl ?_
  refine ev_aload_n dRun_takeWays_3 rfl ?_
  refine ev_getR hok fk_Run_21 (woRun hw) (fun _ _ _ => rfl) huo_1 dRun_takeWays_4 ?_
  refine ev_getI hok fk_Run_174 (woTrade hwuo_1) (fun _ _ _ => rfl) dRun_takeWays_7 ?_
  refine ev_icmp_ge 96 dRun_takeWays_10 (by decide) (fun c1 => ?_) (fun c1 => ?_)
  · have H := H.1 c1
    exact ev_vret rfl dRun_takeWays_96 H
  · have H := H.2 c1
    refine ev_aload_n dRun_takeWays_13 rfl ?_
    refine ev_iload_n dRun_takeWays_14 rfl ?_
    refine ev_callV [.int x1] [] (B' := (0, 0)) (B'' := (0, 0)) hok mmRun_isDead mk_Run_212 (ci := 7) rfl rfl (woRun hw) rfl (Nat.le_of_ble_eq_true rfl) rfl (Nat.le_of_ble_eq_true rfl) dRun_takeWays_15 rfl (by decide) H (fun v τ p2 => ?_)
    obtain ⟨r3, I4, L5, rfl, rfl, H⟩ := p2
    refine ev_if_eq 44 dRun_takeWays_18 (by decide) (fun c6 => ?_) (fun c6 => ?_)
    · have H := H.1 c6
      refine ev_aload_n dRun_takeWays_44 rfl ?_
      refine ev_getR hok fk_Run_63 (woRun hw) (fun _ _ _ => rfl) (wrRun_7 hw) dRun_takeWays_45 ?_
      refine ev_aload_n dRun_takeWays_48 rfl ?_
      refine ev_iload_n dRun_takeWays_49 rfl ?_
      refine ev_callV [.ref o, .int x1] [] (B' := (0, 0)) (B'' := (0, 0)) hok mmWay_choose mk_Run_407 (ci := 10) rfl rfl (woWay (wsRun_7 hw)) rfl (Nat.le_of_ble_eq_true rfl) rfl (Nat.le_of_ble_eq_true rfl) dRun_takeWays_50 rfl (by decide) H (fun v τ p7 => ?_)
      obtain ⟨I9, L10, rfl, rfl, H⟩ := p7
      refine ev_aload_n dRun_takeWays_53 rfl ?_
      refine ev_iload_n dRun_takeWays_54 rfl ?_
      refine ev_callV [.int x1] [] (B' := (0, 0)) (B'' := (0, 0)) hok mmRun_takeWay mk_Run_411 (ci := 7) rfl rfl (woRun hw) rfl (Nat.le_of_ble_eq_true rfl) rfl (Nat.le_of_ble_eq_true rfl) dRun_takeWays_55 rfl (by decide) H (fun v τ p11 => ?_)
      obtain ⟨I13, L14, rfl, rfl, H⟩ := p11
      refine ev_aload_n dRun_takeWays_58 rfl ?_
      refine ev_getR hok fk_Run_56 (woRun hw) (fun _ _ _ => rfl) (wrRun_6 hw) dRun_takeWays_59 ?_
      refine ev_iload_n dRun_takeWays_62 rfl ?_
      refine ev_aload_n dRun_takeWays_63 rfl ?_
      refine ev_getI hok fk_Run_98 (woRun hw) (fun _ _ _ => rfl) dRun_takeWays_64 ?_
      refine ev_aload_n dRun_takeWays_67 rfl ?_
      refine ev_getR hok fk_Run_74 (woRun hw) (fun _ _ _ => rfl) (wrRun_10 hw) dRun_takeWays_68 ?_
      refine ev_iload_n dRun_takeWays_71 rfl ?_
      obtain ⟨h15, H⟩ := H
      refine ev_lald hok (waRun_10 hw) h15 dRun_takeWays_72 ?_
      refine ev_aload_n dRun_takeWays_73 rfl ?_
      refine ev_getR hok fk_Run_63 (woRun hw) (fun _ _ _ => rfl) (wrRun_7 hw) dRun_takeWays_74 ?_
      refine ev_getI hok fk_Run_414 (woWay (wsRun_7 hw)) (fun _ _ _ => rfl) dRun_takeWays_77 ?_
      refine ev_aload_n dRun_takeWays_80 rfl ?_
      refine ev_getR hok fk_Run_63 (woRun hw) (fun _ _ _ => rfl) (wrRun_7 hw) dRun_takeWays_81 ?_
      refine ev_getL hok fk_Run_417 (woWay (wsRun_7 hw)) (fun _ _ _ => rfl) dRun_takeWays_84 ?_
      refine ev_callV [.int x1, .int ((I13 o 17)), .long ((L14 (o + 61) (x1 : Int32).toNatClampNeg)), .int ((I13 (o + 58) 0)), .long ((L14 (o + 58) 5))] [] (B' := (0, 0)) (B'' := (0, 0)) hok mmRecords_keepBook mk_Run_403 (ci := 5) rfl rfl (woRecords (wsRun_6 hw)) rfl (Nat.le_of_ble_eq_true rfl) rfl (Nat.le_of_ble_eq_true rfl) dRun_takeWays_87 rfl (by decide) H (fun v τ p16 => ?_)
      obtain ⟨I18, L19, rfl, rfl, H⟩ := p16
      exact ev_sub [(0, .ref o), (1, .int x1)] rfl (sRun_takeWays_90 o n sh Rf I18 L19 post x1 uo_1 hok hw huo_1 hwuo_1 H)
    · have H := H.2 c6
      refine ev_aload_n dRun_takeWays_21 rfl ?_
      refine ev_getR hok fk_Run_56 (woRun hw) (fun _ _ _ => rfl) (wrRun_6 hw) dRun_takeWays_22 ?_
      refine ev_iload_n dRun_takeWays_25 rfl ?_
      refine ev_aload_n dRun_takeWays_26 rfl ?_
      refine ev_getI hok fk_Run_98 (woRun hw) (fun _ _ _ => rfl) dRun_takeWays_27 ?_
      refine ev_aload_n dRun_takeWays_30 rfl ?_
      refine ev_getR hok fk_Run_74 (woRun hw) (fun _ _ _ => rfl) (wrRun_10 hw) dRun_takeWays_31 ?_
      refine ev_iload_n dRun_takeWays_34 rfl ?_
      obtain ⟨h20, H⟩ := H
      refine ev_lald hok (waRun_10 hw) h20 dRun_takeWays_35 ?_
      refine ev_iconst (-1) dRun_takeWays_36 (by decide) ?_
      refine ev_lconst 0 dRun_takeWays_37 (by decide) ?_
      refine ev_callV [.int x1, .int ((I4 o 17)), .long ((L5 (o + 61) (x1 : Int32).toNatClampNeg)), .int ((-1)), .long 0] [] (B' := (0, 0)) (B'' := (0, 0)) hok mmRecords_keepBook mk_Run_403 (ci := 5) rfl rfl (woRecords (wsRun_6 hw)) rfl (Nat.le_of_ble_eq_true rfl) rfl (Nat.le_of_ble_eq_true rfl) dRun_takeWays_38 rfl (by decide) H (fun v τ p21 => ?_)
      obtain ⟨I23, L24, rfl, rfl, H⟩ := p21
      refine ev_goto 90 dRun_takeWays_41 (by decide) ?_
      exact ev_sub [(0, .ref o), (1, .int x1)] rfl (sRun_takeWays_90 o n sh Rf I23 L24 post x1 uo_1 hok hw huo_1 hwuo_1 H)
def fRun_takeWays_0 (D : va_G) (cA : FieldType → ClassId) (b : Nat) (E : State → Prop) (o : Nat) (n : Nat) (sh : Nat → qC) (Rf : Nat → Nat → Option Nat) (I : Nat → Nat → Int32) (L : Nat → Nat → Int64) (post : Option Value → qS → Prop) (uo_1 : Nat) : Prop :=
  Ev (qGG D cA b E) mRun_takeWays 5 (0, 0) 2 [(0, .ref o), (1, .int 0)] [] (n, sh, Rf, I, L) post
set_option maxHeartbeats 4000000 in
set_option maxRecDepth 20000 in
theorem sRun_takeWays_0 {D : va_G} {cA : FieldType → ClassId} {b : Nat} {E : State → Prop} (o : Nat) (n : Nat) (sh : Nat → qC) (Rf : Nat → Nat → Option Nat) (I : Nat → Nat → Int32) (L : Nat → Nat → Int64) (post : Option Value → qS → Prop) (uo_1 : Nat) (hok : q_ok (qGG D cA b E)) (hw : WfRun (qGG D cA b E) n sh Rf o) (huo_1 : Rf o 1 = some uo_1) (hwuo_1 : WfTrade (qGG D cA b E) n sh Rf uo_1) (H : fRun_takeWays_0 D cA b E o n sh Rf I L post uo_1) : Ev (qGG D cA b E) mRun_takeWays 5 (0, 0) 0 [(0, .ref o)] [] (n, sh, Rf, I, L) post := by
  unfold fRun_takeWays_0 at H
  refine ev_iconst (0) dRun_takeWays_0 (by decide) ?_
  refine ev_istore_n dRun_takeWays_1 (by decide) ?_
  exact ev_sub [(0, .ref o), (1, .int 0)] rfl H
def fRun_play_37 (D : va_G) (cA : FieldType → ClassId) (b : Nat) (E : State → Prop) (o : Nat) (n : Nat) (sh : Nat → qC) (Rf : Nat → Nat → Option Nat) (I : Nat → Nat → Int32) (L : Nat → Nat → Int64) (post : Option Value → qS → Prop) (x1 : Nat) (x2 : Nat) (x3 : Nat) (x4 : Nat) (x5 : Int32) (x6 : Int32) (uo_0 : Nat) : Prop :=
  ((x5 ≤ (I o 17) → Ev (qGG D cA b E) mRun_finish 3 (0, 0) 0 (lv_args 0 [.ref o]) [] (n, sh, Rf, I, L) (fun v τ => ∃ (I4 : Nat → Nat → Int32) (L5 : Nat → Nat → Int64), v = none ∧ τ = (n, sh, Rf, I4, L5) ∧ post none (n, sh, Rf, I4, L5))) ∧ (¬ x5 ≤ (I o 17) → Ev (qGG D cA b E) mPapers_loseForged 2 (0, 0) 0 (lv_args 0 [.ref ((o + 31)), .int ((I o 17))]) [] (n, sh, Rf, I, L) (fun v τ => ∃ (I8 : Nat → Nat → Int32) (L9 : Nat → Nat → Int64), v = none ∧ τ = (n, sh, Rf, I8, L9) ∧ Ev (qGG D cA b E) mRun_buryDead 4 (0, 0) 0 (lv_args 0 [.ref o]) [] (n, sh, Rf, I8, L9) (fun v τ => ∃ (I12 : Nat → Nat → Int32) (L13 : Nat → Nat → Int64), v = none ∧ τ = (n, sh, Rf, I12, L13) ∧ Ev (qGG D cA b E) mRun_makeSalt 2 (0, 0) 0 (lv_args 0 [.ref o, .ref x4, .int x6]) [] (n, sh, Rf, I12, L13) (fun v τ => ∃ (I16 : Nat → Nat → Int32) (L17 : Nat → Nat → Int64), v = none ∧ τ = (n, sh, Rf, I16, L17) ∧ Ev (qGG D cA b E) mRun_tellMonth 2 (0, 0) 0 (lv_args 0 [.ref o]) [] (n, sh, Rf, I16, L17) (fun v τ => ∃ (I20 : Nat → Nat → Int32) (L21 : Nat → Nat → Int64), v = none ∧ τ = (n, sh, Rf, I20, L21) ∧ Ev (qGG D cA b E) mRun_bringLoads 3 (0, 0) 0 (lv_args 0 [.ref o]) [] (n, sh, Rf, I20, L21) (fun v τ => ∃ (I24 : Nat → Nat → Int32) (L25 : Nat → Nat → Int64), v = none ∧ τ = (n, sh, Rf, I24, L25) ∧ Ev (qGG D cA b E) mRun_drawPapers 5 (0, 0) 0 (lv_args 0 [.ref o]) [] (n, sh, Rf, I24, L25) (fun v τ => ∃ (I28 : Nat → Nat → Int32) (L29 : Nat → Nat → Int64), v = none ∧ τ = (n, sh, Rf, I28, L29) ∧ Ev (qGG D cA b E) mRealm_eat 1 (0, 0) 0 (lv_args 0 [.ref ((o + 24)), .ref uo_0]) [] (n, sh, Rf, I28, L29) (fun v τ => ∃ (r31 : Int32) (I32 : Nat → Nat → Int32) (L33 : Nat → Nat → Int64), v = some (.int r31) ∧ τ = (n, sh, Rf, I32, L33) ∧ ∀ L34 : Nat → Nat → Int64, q_u L33 (o + 65) 0 ((L29 (o + 65) 0) + (r31 : Int32).toInt64) = L34 → Ev (qGG D cA b E) mRealm_use 1 (0, 0) 0 (lv_args 0 [.ref ((o + 24)), .ref uo_0]) [] (n, sh, Rf, I32, L34) (fun v τ => ∃ (I37 : Nat → Nat → Int32) (L38 : Nat → Nat → Int64), v = none ∧ τ = (n, sh, Rf, I37, L38) ∧ Ev (qGG D cA b E) mRun_takeWays 5 (0, 0) 0 (lv_args 0 [.ref o]) [] (n, sh, Rf, I37, L38) (fun v τ => ∃ (I41 : Nat → Nat → Int32) (L42 : Nat → Nat → Int64), v = none ∧ τ = (n, sh, Rf, I41, L42) ∧ Ev (qGG D cA b E) mRun_smuggleAll 3 (0, 0) 0 (lv_args 0 [.ref o]) [] (n, sh, Rf, I41, L42) (fun v τ => ∃ (I45 : Nat → Nat → Int32) (L46 : Nat → Nat → Int64), v = none ∧ τ = (n, sh, Rf, I45, L46) ∧ Ev (qGG D cA b E) mRecords_keepRealm 2 (0, 0) 0 (lv_args 0 [.ref ((o + 53)), .ref ((o + 24)), .ref uo_0, .ref ((o + 31)), .int ((I45 o 17))]) [] (n, sh, Rf, I45, L46) (fun v τ => ∃ (I49 : Nat → Nat → Int32) (L50 : Nat → Nat → Int64), v = none ∧ τ = (n, sh, Rf, I49, L50) ∧ ∀ I51 : Nat → Nat → Int32, q_u I49 o 17 ((I49 o 17) + 1) = I51 → Ev (qGG D cA b E) mRun_play 6 (0, 0) 37 [(0, .ref o), (1, .ref x1), (2, .ref x2), (3, .ref x3), (4, .ref x4), (5, .int x5), (6, .int x6)] [] (n, sh, Rf, I51, L50) post)))))))))))))
set_option maxHeartbeats 4000000 in
set_option maxRecDepth 20000 in
theorem sRun_play_37 {D : va_G} {cA : FieldType → ClassId} {b : Nat} {E : State → Prop} (o : Nat) (n : Nat) (sh : Nat → qC) (Rf : Nat → Nat → Option Nat) (I : Nat → Nat → Int32) (L : Nat → Nat → Int64) (post : Option Value → qS → Prop) (x1 : Nat) (x2 : Nat) (x3 : Nat) (x4 : Nat) (x5 : Int32) (x6 : Int32) (uo_0 : Nat) (hok : q_ok (qGG D cA b E)) (hw : WfRun (qGG D cA b E) n sh Rf o) (hw1 : WfLand (qGG D cA b E) n sh Rf x1) (hw2 : WfTrade (qGG D cA b E) n sh Rf x2) (hw3 : WfReform (qGG D cA b E) n sh Rf x3) (hw4 : WfFacts (qGG D cA b E) n sh Rf x4) (huo_0 : Rf o 0 = some uo_0) (hwuo_0 : WfLand (qGG D cA b E) n sh Rf uo_0) (H : fRun_play_37 D cA b E o n sh Rf I L post x1 x2 x3 x4 x5 x6 uo_0) : Ev (qGG D cA b E) mRun_play 6 (0, 0) 37 [(0, .ref o), (1, .ref x1), (2, .ref x2), (3, .ref x3), (4, .ref x4), (5, .int x5), (6, .int x6)] [] (n, sh, Rf, I, L) post := by
  unfold fRun_play_37 at H
  refine ev_aload_n dRun_play_37 rfl ?_
  refine ev_getI hok fk_Run_98 (woRun hw) (fun _ _ _ => rfl) dRun_play_38 ?_
  refine ev_iload dRun_play_41 rfl ?_
  refine ev_icmp_ge 157 dRun_play_43 (by decide) (fun c1 => ?_) (fun c1 => ?_)
  · have H := H.1 c1
    refine ev_aload_n dRun_play_157 rfl ?_
    refine ev_callV [] [] (B' := (0, 0)) (B'' := (0, 0)) hok mmRun_finish mk_Run_155 (ci := 7) rfl rfl (woRun hw) rfl (Nat.le_of_ble_eq_true rfl) rfl (Nat.le_of_ble_eq_true rfl) dRun_play_158 rfl (by decide) H (fun v τ p2 => ?_)
    obtain ⟨I4, L5, rfl, rfl, H⟩ := p2
    exact ev_vret rfl dRun_play_161 H
  · have H := H.2 c1
    refine ev_aload_n dRun_play_46 rfl ?_
    refine ev_getR hok fk_Run_42 (woRun hw) (fun _ _ _ => rfl) (wrRun_4 hw) dRun_play_47 ?_
    refine ev_aload_n dRun_play_50 rfl ?_
    refine ev_getI hok fk_Run_98 (woRun hw) (fun _ _ _ => rfl) dRun_play_51 ?_
    refine ev_callV [.int ((I o 17))] [] (B' := (0, 0)) (B'' := (0, 0)) hok mmPapers_loseForged mk_Run_118 (ci := 3) rfl rfl (woPapers (wsRun_4 hw)) rfl (Nat.le_of_ble_eq_true rfl) rfl (Nat.le_of_ble_eq_true rfl) dRun_play_54 rfl (by decide) H (fun v τ p6 => ?_)
    obtain ⟨I8, L9, rfl, rfl, H⟩ := p6
    refine ev_aload_n dRun_play_57 rfl ?_
    refine ev_callV [] [] (B' := (0, 0)) (B'' := (0, 0)) hok mmRun_buryDead mk_Run_122 (ci := 7) rfl rfl (woRun hw) rfl (Nat.le_of_ble_eq_true rfl) rfl (Nat.le_of_ble_eq_true rfl) dRun_play_58 rfl (by decide) H (fun v τ p10 => ?_)
    obtain ⟨I12, L13, rfl, rfl, H⟩ := p10
    refine ev_aload_n dRun_play_61 rfl ?_
    refine ev_aload dRun_play_62 rfl ?_
    refine ev_iload dRun_play_64 rfl ?_
    refine ev_callV [.ref x4, .int x6] [] (B' := (0, 0)) (B'' := (0, 0)) hok mmRun_makeSalt mk_Run_125 (ci := 7) rfl rfl (woRun hw) rfl (Nat.le_of_ble_eq_true rfl) rfl (Nat.le_of_ble_eq_true rfl) dRun_play_66 rfl (by decide) H (fun v τ p14 => ?_)
    obtain ⟨I16, L17, rfl, rfl, H⟩ := p14
    refine ev_aload_n dRun_play_69 rfl ?_
    refine ev_callV [] [] (B' := (0, 0)) (B'' := (0, 0)) hok mmRun_tellMonth mk_Run_128 (ci := 7) rfl rfl (woRun hw) rfl (Nat.le_of_ble_eq_true rfl) rfl (Nat.le_of_ble_eq_true rfl) dRun_play_70 rfl (by decide) H (fun v τ p18 => ?_)
    obtain ⟨I20, L21, rfl, rfl, H⟩ := p18
    refine ev_aload_n dRun_play_73 rfl ?_
    refine ev_callV [] [] (B' := (0, 0)) (B'' := (0, 0)) hok mmRun_bringLoads mk_Run_131 (ci := 7) rfl rfl (woRun hw) rfl (Nat.le_of_ble_eq_true rfl) rfl (Nat.le_of_ble_eq_true rfl) dRun_play_74 rfl (by decide) H (fun v τ p22 => ?_)
    obtain ⟨I24, L25, rfl, rfl, H⟩ := p22
    refine ev_aload_n dRun_play_77 rfl ?_
    refine ev_callV [] [] (B' := (0, 0)) (B'' := (0, 0)) hok mmRun_drawPapers mk_Run_134 (ci := 7) rfl rfl (woRun hw) rfl (Nat.le_of_ble_eq_true rfl) rfl (Nat.le_of_ble_eq_true rfl) dRun_play_78 rfl (by decide) H (fun v τ p26 => ?_)
    obtain ⟨I28, L29, rfl, rfl, H⟩ := p26
    refine ev_aload_n dRun_play_81 rfl ?_
    refine ev_getR hok fk_Run_87 (woRun hw) (fun _ _ _ => rfl) (wrRun_14 hw) dRun_play_82 ?_
    refine ev_iconst (0) dRun_play_85 (by decide) ?_
    refine ev_dup2_11 dRun_play_86 rfl rfl ?_
    refine ev_lald hok (waRun_14 hw) (by unfold vp_in; decide) dRun_play_87 ?_
    rw [show (0 : Int32).toNatClampNeg = 0 from rfl]
    refine ev_aload_n dRun_play_88 rfl ?_
    refine ev_getR hok fk_Run_35 (woRun hw) (fun _ _ _ => rfl) (wrRun_3 hw) dRun_play_89 ?_
    refine ev_aload_n dRun_play_92 rfl ?_
    refine ev_getR hok fk_Run_12 (woRun hw) (fun _ _ _ => rfl) huo_0 dRun_play_93 ?_
    refine ev_callV [.ref uo_0] [.long ((L29 (o + 65) 0)), .int 0, .ref ((o + 65))] (B' := (0, 0)) (B'' := (0, 0)) hok mmRealm_eat mk_Run_137 (ci := 4) rfl rfl (woRealm (wsRun_3 hw)) rfl (Nat.le_of_ble_eq_true rfl) rfl (Nat.le_of_ble_eq_true rfl) dRun_play_96 rfl (by decide) H (fun v τ p30 => ?_)
    obtain ⟨r31, I32, L33, rfl, rfl, H⟩ := p30
    refine ev_i2l dRun_play_99 ?_
    refine ev_ladd dRun_play_100 ?_
    refine ev_last hok (waRun_14 hw) (by unfold vp_in; decide) dRun_play_101 ?_
    rw [show (0 : Int32).toNatClampNeg = 0 from rfl]
    generalize eL34 : q_u L33 (o + 65) 0 ((L29 (o + 65) 0) + (r31 : Int32).toInt64) = L34
    have H := H L34 eL34
    refine ev_aload_n dRun_play_102 rfl ?_
    refine ev_getR hok fk_Run_35 (woRun hw) (fun _ _ _ => rfl) (wrRun_3 hw) dRun_play_103 ?_
    refine ev_aload_n dRun_play_106 rfl ?_
    refine ev_getR hok fk_Run_12 (woRun hw) (fun _ _ _ => rfl) huo_0 dRun_play_107 ?_
    refine ev_callV [.ref uo_0] [] (B' := (0, 0)) (B'' := (0, 0)) hok mmRealm_use mk_Run_141 (ci := 4) rfl rfl (woRealm (wsRun_3 hw)) rfl (Nat.le_of_ble_eq_true rfl) rfl (Nat.le_of_ble_eq_true rfl) dRun_play_110 rfl (by decide) H (fun v τ p35 => ?_)
    obtain ⟨I37, L38, rfl, rfl, H⟩ := p35
    refine ev_aload_n dRun_play_113 rfl ?_
    refine ev_callV [] [] (B' := (0, 0)) (B'' := (0, 0)) hok mmRun_takeWays mk_Run_145 (ci := 7) rfl rfl (woRun hw) rfl (Nat.le_of_ble_eq_true rfl) rfl (Nat.le_of_ble_eq_true rfl) dRun_play_114 rfl (by decide) H (fun v τ p39 => ?_)
    obtain ⟨I41, L42, rfl, rfl, H⟩ := p39
    refine ev_aload_n dRun_play_117 rfl ?_
    refine ev_callV [] [] (B' := (0, 0)) (B'' := (0, 0)) hok mmRun_smuggleAll mk_Run_148 (ci := 7) rfl rfl (woRun hw) rfl (Nat.le_of_ble_eq_true rfl) rfl (Nat.le_of_ble_eq_true rfl) dRun_play_118 rfl (by decide) H (fun v τ p43 => ?_)
    obtain ⟨I45, L46, rfl, rfl, H⟩ := p43
    refine ev_aload_n dRun_play_121 rfl ?_
    refine ev_getR hok fk_Run_56 (woRun hw) (fun _ _ _ => rfl) (wrRun_6 hw) dRun_play_122 ?_
    refine ev_aload_n dRun_play_125 rfl ?_
    refine ev_getR hok fk_Run_35 (woRun hw) (fun _ _ _ => rfl) (wrRun_3 hw) dRun_play_126 ?_
    refine ev_aload_n dRun_play_129 rfl ?_
    refine ev_getR hok fk_Run_12 (woRun hw) (fun _ _ _ => rfl) huo_0 dRun_play_130 ?_
    refine ev_aload_n dRun_play_133 rfl ?_
    refine ev_getR hok fk_Run_42 (woRun hw) (fun _ _ _ => rfl) (wrRun_4 hw) dRun_play_134 ?_
    refine ev_aload_n dRun_play_137 rfl ?_
    refine ev_getI hok fk_Run_98 (woRun hw) (fun _ _ _ => rfl) dRun_play_138 ?_
    refine ev_callV [.ref ((o + 24)), .ref uo_0, .ref ((o + 31)), .int ((I45 o 17))] [] (B' := (0, 0)) (B'' := (0, 0)) hok mmRecords_keepRealm mk_Run_151 (ci := 5) rfl rfl (woRecords (wsRun_6 hw)) rfl (Nat.le_of_ble_eq_true rfl) rfl (Nat.le_of_ble_eq_true rfl) dRun_play_141 rfl (by decide) H (fun v τ p47 => ?_)
    obtain ⟨I49, L50, rfl, rfl, H⟩ := p47
    refine ev_aload_n dRun_play_144 rfl ?_
    refine ev_dup dRun_play_145 rfl ?_
    refine ev_getI hok fk_Run_98 (woRun hw) (fun _ _ _ => rfl) dRun_play_146 ?_
    refine ev_iconst (1) dRun_play_149 (by decide) ?_
    refine ev_iadd dRun_play_150 ?_
    refine ev_putI hok fk_Run_98 (woRun hw) (fun _ _ _ => rfl) rfl rfl dRun_play_151 ?_
    generalize eI51 : q_u I49 o 17 ((I49 o 17) + 1) = I51
    have H := H I51 eI51
    refine ev_goto 37 dRun_play_154 (by decide) ?_
    exact ev_sub [(0, .ref o), (1, .ref x1), (2, .ref x2), (3, .ref x3), (4, .ref x4), (5, .int x5), (6, .int x6)] rfl H
def fRun_play_10 (D : va_G) (cA : FieldType → ClassId) (b : Nat) (E : State → Prop) (o : Nat) (n : Nat) (sh : Nat → qC) (Rf : Nat → Nat → Option Nat) (I : Nat → Nat → Int32) (L : Nat → Nat → Int64) (post : Option Value → qS → Prop) (x1 : Nat) (x2 : Nat) (x3 : Nat) (x4 : Nat) (x5 : Int32) (x6 : Int32) (uo_0 : Nat) : Prop :=
  ∀ I1 : Nat → Nat → Int32, q_u I o 16 x5 = I1 → Ev (qGG D cA b E) mReform_copyFrom 1 (0, 0) 0 (lv_args 0 [.ref ((o + 19)), .ref x3]) [] (n, sh, Rf, I1, L) (fun v τ => ∃ (I4 : Nat → Nat → Int32) (L5 : Nat → Nat → Int64), v = none ∧ τ = (n, sh, Rf, I4, L5) ∧ Ev (qGG D cA b E) mRun_begin 2 (0, 0) 0 (lv_args 0 [.ref o, .ref x4, .int x6]) [] (n, sh, Rf, I4, L5) (fun v τ => ∃ (I8 : Nat → Nat → Int32) (L9 : Nat → Nat → Int64), v = none ∧ τ = (n, sh, Rf, I8, L9) ∧ ∀ I10 : Nat → Nat → Int32, q_u I8 o 17 0 = I10 → Ev (qGG D cA b E) mRun_play 6 (0, 0) 37 [(0, .ref o), (1, .ref x1), (2, .ref x2), (3, .ref x3), (4, .ref x4), (5, .int x5), (6, .int x6)] [] (n, sh, Rf, I10, L9) post))
set_option maxHeartbeats 4000000 in
set_option maxRecDepth 20000 in
theorem sRun_play_10 {D : va_G} {cA : FieldType → ClassId} {b : Nat} {E : State → Prop} (o : Nat) (n : Nat) (sh : Nat → qC) (Rf : Nat → Nat → Option Nat) (I : Nat → Nat → Int32) (L : Nat → Nat → Int64) (post : Option Value → qS → Prop) (x1 : Nat) (x2 : Nat) (x3 : Nat) (x4 : Nat) (x5 : Int32) (x6 : Int32) (uo_0 : Nat) (hok : q_ok (qGG D cA b E)) (hw : WfRun (qGG D cA b E) n sh Rf o) (hw1 : WfLand (qGG D cA b E) n sh Rf x1) (hw2 : WfTrade (qGG D cA b E) n sh Rf x2) (hw3 : WfReform (qGG D cA b E) n sh Rf x3) (hw4 : WfFacts (qGG D cA b E) n sh Rf x4) (huo_0 : Rf o 0 = some uo_0) (hwuo_0 : WfLand (qGG D cA b E) n sh Rf uo_0) (H : fRun_play_10 D cA b E o n sh Rf I L post x1 x2 x3 x4 x5 x6 uo_0) : Ev (qGG D cA b E) mRun_play 6 (0, 0) 10 [(0, .ref o), (1, .ref x1), (2, .ref x2), (3, .ref x3), (4, .ref x4), (5, .int x5), (6, .int x6)] [] (n, sh, Rf, I, L) post := by
  unfold fRun_play_10 at H
  refine ev_aload_n dRun_play_10 rfl ?_
  refine ev_iload dRun_play_11 rfl ?_
  refine ev_putI hok fk_Run_94 (woRun hw) (fun _ _ _ => rfl) rfl rfl dRun_play_13 ?_
  generalize eI1 : q_u I o 16 x5 = I1
  have H := H I1 eI1
  refine ev_aload_n dRun_play_16 rfl ?_
  refine ev_getR hok fk_Run_28 (woRun hw) (fun _ _ _ => rfl) (wrRun_2 hw) dRun_play_17 ?_
  refine ev_aload_n dRun_play_20 rfl ?_
  refine ev_callV [.ref x3] [] (B' := (0, 0)) (B'' := (0, 0)) hok mmReform_copyFrom mk_Run_110 (ci := 6) rfl rfl (woReform (wsRun_2 hw)) rfl (Nat.le_of_ble_eq_true rfl) rfl (Nat.le_of_ble_eq_true rfl) dRun_play_21 rfl (by decide) H (fun v τ p2 => ?_)
  obtain ⟨I4, L5, rfl, rfl, H⟩ := p2
  refine ev_aload_n dRun_play_24 rfl ?_
  refine ev_aload dRun_play_25 rfl ?_
  refine ev_iload dRun_play_27 rfl ?_
  refine ev_callV [.ref x4, .int x6] [] (B' := (0, 0)) (B'' := (0, 0)) hok mmRun_begin mk_Run_114 (ci := 7) rfl rfl (woRun hw) rfl (Nat.le_of_ble_eq_true rfl) rfl (Nat.le_of_ble_eq_true rfl) dRun_play_29 rfl (by decide) H (fun v τ p6 => ?_)
  obtain ⟨I8, L9, rfl, rfl, H⟩ := p6
  refine ev_aload_n dRun_play_32 rfl ?_
  refine ev_iconst (0) dRun_play_33 (by decide) ?_
  refine ev_putI hok fk_Run_98 (woRun hw) (fun _ _ _ => rfl) rfl rfl dRun_play_34 ?_
  generalize eI10 : q_u I8 o 17 0 = I10
  have H := H I10 eI10
  exact ev_sub [(0, .ref o), (1, .ref x1), (2, .ref x2), (3, .ref x3), (4, .ref x4), (5, .int x5), (6, .int x6)] rfl H
def fRun_play_5 (D : va_G) (cA : FieldType → ClassId) (b : Nat) (E : State → Prop) (o : Nat) (n : Nat) (sh : Nat → qC) (Rf : Nat → Nat → Option Nat) (I : Nat → Nat → Int32) (L : Nat → Nat → Int64) (post : Option Value → qS → Prop) (x1 : Nat) (x2 : Nat) (x3 : Nat) (x4 : Nat) (x5 : Int32) (x6 : Int32) (uo_0 : Nat) : Prop :=
  Ev (qGG D cA b E) mRun_play 6 (0, 0) 10 [(0, .ref o), (1, .ref x1), (2, .ref x2), (3, .ref x3), (4, .ref x4), (5, .int x5), (6, .int x6)] [] (n, sh, q_u Rf o 1 (some x2), I, L) post
set_option maxHeartbeats 4000000 in
set_option maxRecDepth 20000 in
theorem sRun_play_5 {D : va_G} {cA : FieldType → ClassId} {b : Nat} {E : State → Prop} (o : Nat) (n : Nat) (sh : Nat → qC) (Rf : Nat → Nat → Option Nat) (I : Nat → Nat → Int32) (L : Nat → Nat → Int64) (post : Option Value → qS → Prop) (x1 : Nat) (x2 : Nat) (x3 : Nat) (x4 : Nat) (x5 : Int32) (x6 : Int32) (uo_0 : Nat) (hok : q_ok (qGG D cA b E)) (hw : WfRun (qGG D cA b E) n sh Rf o) (hw1 : WfLand (qGG D cA b E) n sh Rf x1) (hw2 : WfTrade (qGG D cA b E) n sh Rf x2) (hw3 : WfReform (qGG D cA b E) n sh Rf x3) (hw4 : WfFacts (qGG D cA b E) n sh Rf x4) (huo_0 : Rf o 0 = some uo_0) (hwuo_0 : WfLand (qGG D cA b E) n sh Rf uo_0) (H : fRun_play_5 D cA b E o n sh Rf I L post x1 x2 x3 x4 x5 x6 uo_0) : Ev (qGG D cA b E) mRun_play 6 (0, 0) 5 [(0, .ref o), (1, .ref x1), (2, .ref x2), (3, .ref x3), (4, .ref x4), (5, .int x5), (6, .int x6)] [] (n, sh, Rf, I, L) post := by
  unfold fRun_play_5 at H
  refine ev_aload_n dRun_play_5 rfl ?_
  refine ev_aload_n dRun_play_6 rfl ?_
  refine ev_putR hok fk_Run_21 (woRun hw) (fun _ _ _ => rfl) rfl rfl dRun_play_7 ?_
  exact ev_sub [(0, .ref o), (1, .ref x1), (2, .ref x2), (3, .ref x3), (4, .ref x4), (5, .int x5), (6, .int x6)] rfl H
def fRun_play_0 (D : va_G) (cA : FieldType → ClassId) (b : Nat) (E : State → Prop) (o : Nat) (n : Nat) (sh : Nat → qC) (Rf : Nat → Nat → Option Nat) (I : Nat → Nat → Int32) (L : Nat → Nat → Int64) (post : Option Value → qS → Prop) (x1 : Nat) (x2 : Nat) (x3 : Nat) (x4 : Nat) (x5 : Int32) (x6 : Int32) (uo_0 : Nat) : Prop :=
  Ev (qGG D cA b E) mRun_play 6 (0, 0) 5 [(0, .ref o), (1, .ref x1), (2, .ref x2), (3, .ref x3), (4, .ref x4), (5, .int x5), (6, .int x6)] [] (n, sh, q_u Rf o 0 (some x1), I, L) post
set_option maxHeartbeats 4000000 in
set_option maxRecDepth 20000 in
theorem sRun_play_0 {D : va_G} {cA : FieldType → ClassId} {b : Nat} {E : State → Prop} (o : Nat) (n : Nat) (sh : Nat → qC) (Rf : Nat → Nat → Option Nat) (I : Nat → Nat → Int32) (L : Nat → Nat → Int64) (post : Option Value → qS → Prop) (x1 : Nat) (x2 : Nat) (x3 : Nat) (x4 : Nat) (x5 : Int32) (x6 : Int32) (uo_0 : Nat) (hok : q_ok (qGG D cA b E)) (hw : WfRun (qGG D cA b E) n sh Rf o) (hw1 : WfLand (qGG D cA b E) n sh Rf x1) (hw2 : WfTrade (qGG D cA b E) n sh Rf x2) (hw3 : WfReform (qGG D cA b E) n sh Rf x3) (hw4 : WfFacts (qGG D cA b E) n sh Rf x4) (huo_0 : Rf o 0 = some uo_0) (hwuo_0 : WfLand (qGG D cA b E) n sh Rf uo_0) (H : fRun_play_0 D cA b E o n sh Rf I L post x1 x2 x3 x4 x5 x6 uo_0) : Ev (qGG D cA b E) mRun_play 6 (0, 0) 0 [(0, .ref o), (1, .ref x1), (2, .ref x2), (3, .ref x3), (4, .ref x4), (5, .int x5), (6, .int x6)] [] (n, sh, Rf, I, L) post := by
  unfold fRun_play_0 at H
  refine ev_aload_n dRun_play_0 rfl ?_
  refine ev_aload_n dRun_play_1 rfl ?_
  refine ev_putR hok fk_Run_12 (woRun hw) (fun _ _ _ => rfl) rfl rfl dRun_play_2 ?_
  exact ev_sub [(0, .ref o), (1, .ref x1), (2, .ref x2), (3, .ref x3), (4, .ref x4), (5, .int x5), (6, .int x6)] rfl H
def fOffice_judge_181 (D : va_G) (cA : FieldType → ClassId) (b : Nat) (E : State → Prop) (o : Nat) (n : Nat) (sh : Nat → qC) (Rf : Nat → Nat → Option Nat) (I : Nat → Nat → Int32) (L : Nat → Nat → Int64) (post : Option Value → qS → Prop) (x1 : Int32) (x2 : Int32) (x3 : Int32) (x4 : Int32) (x5 : Nat) (x6 : Nat) (x7 : Int64) (x9 : Int64) (x11 : Int64) (x13 : Int64) (x15 : Int32) (uo_1 : Nat) : Prop :=
  ((¬ x15 = 0 → ((¬ x15 = 0 → ((0 ≤ x15 → post (some (.int 1)) (n, sh, Rf, I, L)) ∧ (¬ 0 ≤ x15 → post (some (.int 0)) (n, sh, Rf, I, L)))) ∧ (x15 = 0 → post (some (.int 2)) (n, sh, Rf, I, L)))) ∧ (x15 = 0 → Ev (qGG D cA b E) mLong_compare_74951 0 (0, 0) 0 (lv_args 0 [.long ((L ((o + 121) + 65) 2)), .long x13]) [] (n, sh, Rf, I, L) (fun v τ => ∃ (r5 : Int32) (I6 : Nat → Nat → Int32) (L7 : Nat → Nat → Int64), v = some (.int r5) ∧ τ = (n, sh, Rf, I6, L7) ∧ ((¬ r5 = 0 → ((0 ≤ r5 → post (some (.int 1)) (n, sh, Rf, I6, L7)) ∧ (¬ 0 ≤ r5 → post (some (.int 0)) (n, sh, Rf, I6, L7)))) ∧ (r5 = 0 → post (some (.int 2)) (n, sh, Rf, I6, L7))))))
set_option maxHeartbeats 4000000 in
set_option maxRecDepth 20000 in
theorem sOffice_judge_181 {D : va_G} {cA : FieldType → ClassId} {b : Nat} {E : State → Prop} (o : Nat) (n : Nat) (sh : Nat → qC) (Rf : Nat → Nat → Option Nat) (I : Nat → Nat → Int32) (L : Nat → Nat → Int64) (post : Option Value → qS → Prop) (x1 : Int32) (x2 : Int32) (x3 : Int32) (x4 : Int32) (x5 : Nat) (x6 : Nat) (x7 : Int64) (x9 : Int64) (x11 : Int64) (x13 : Int64) (x15 : Int32) (uo_1 : Nat) (hok : q_ok (qGG D cA b E)) (hw : WfOffice (qGG D cA b E) n sh Rf o) (hwx5 : WfReform (qGG D cA b E) n sh Rf x5) (hwx6 : WfReform (qGG D cA b E) n sh Rf x6) (huo_1 : Rf o 1 = some uo_1) (hwuo_1 : WfLand (qGG D cA b E) n sh Rf uo_1) (H : fOffice_judge_181 D cA b E o n sh Rf I L post x1 x2 x3 x4 x5 x6 x7 x9 x11 x13 x15 uo_1) : Ev (qGG D cA b E) mOffice_judge 7 (0, 0) 181 [(0, .ref o), (1, .int x1), (2, .int x2), (3, .int x3), (4, .int x4), (5, .ref x5), (6, .ref x6), (7, .long x7), (9, .long x9), (11, .long x11), (13, .long x13), (15, .int x15)] [] (n, sh, Rf, I, L) post := by
  unfold fOffice_judge_181 at H
  refine ev_iload dOffice_judge_181 rfl ?_
  refine ev_if_ne 202 dOffice_judge_183 (by decide) (fun c1 => ?_) (fun c1 => ?_)
  · have H := H.1 c1
    refine ev_iload dOffice_judge_202 rfl ?_
    refine ev_if_ne 209 dOffice_judge_204 (by decide) (fun c2 => ?_) (fun c2 => ?_)
    · have H := H.1 c2
      refine ev_iload dOffice_judge_209 rfl ?_
      refine ev_if_ge 218 dOffice_judge_211 (by decide) (fun c3 => ?_) (fun c3 => ?_)
      · have H := H.1 c3
        refine ev_iconst (1) dOffice_judge_218 (by decide) ?_
        exact ev_iret rfl dOffice_judge_219 H
      · have H := H.2 c3
        refine ev_iconst (0) dOffice_judge_214 (by decide) ?_
        refine ev_goto 219 dOffice_judge_215 (by decide) ?_
        exact ev_iret rfl dOffice_judge_219 H
    · have H := H.2 c2
      refine ev_iconst (2) dOffice_judge_207 (by decide) ?_
      exact ev_iret rfl dOffice_judge_208 H
  · have H := H.2 c1
    refine ev_aload_n dOffice_judge_186 rfl ?_
    refine ev_getR hok fk_Office_62 (woOffice hw) (fun _ _ _ => rfl) (wrOffice_9 hw) dOffice_judge_187 ?_
    refine ev_getR hok fk_Office_164 (woRun (wsOffice_9 hw)) (fun _ _ _ => rfl) (wrRun_14 (wsOffice_9 hw)) dOffice_judge_190 ?_
    refine ev_iconst (2) dOffice_judge_193 (by decide) ?_
    refine ev_lald hok (waRun_14 (wsOffice_9 hw)) (by unfold vp_in; decide) dOffice_judge_194 ?_
    rw [show (2 : Int32).toNatClampNeg = 2 from rfl]
    refine ev_lload dOffice_judge_195 rfl ?_
    refine ev_callS [.long ((L ((o + 121) + 65) 2)), .long x13] [] (B' := (0, 0)) (B'' := (0, 0)) hok mmLong_compare_74951 mk_Office_228 rfl (Nat.le_of_ble_eq_true rfl) rfl (Nat.le_of_ble_eq_true rfl) dOffice_judge_197 rfl (by decide) H (fun v τ p4 => ?_)
    obtain ⟨r5, I6, L7, rfl, rfl, H⟩ := p4
    refine ev_istore dOffice_judge_200 (by decide) ?_
    refine ev_iload dOffice_judge_202 rfl ?_
    refine ev_if_ne 209 dOffice_judge_204 (by decide) (fun c8 => ?_) (fun c8 => ?_)
    · have H := H.1 c8
      refine ev_iload dOffice_judge_209 rfl ?_
      refine ev_if_ge 218 dOffice_judge_211 (by decide) (fun c9 => ?_) (fun c9 => ?_)
      · have H := H.1 c9
        refine ev_iconst (1) dOffice_judge_218 (by decide) ?_
        exact ev_iret rfl dOffice_judge_219 H
      · have H := H.2 c9
        refine ev_iconst (0) dOffice_judge_214 (by decide) ?_
        refine ev_goto 219 dOffice_judge_215 (by decide) ?_
        exact ev_iret rfl dOffice_judge_219 H
    · have H := H.2 c8
      refine ev_iconst (2) dOffice_judge_207 (by decide) ?_
      exact ev_iret rfl dOffice_judge_208 H
def fOffice_judge_131 (D : va_G) (cA : FieldType → ClassId) (b : Nat) (E : State → Prop) (o : Nat) (n : Nat) (sh : Nat → qC) (Rf : Nat → Nat → Option Nat) (I : Nat → Nat → Int32) (L : Nat → Nat → Int64) (post : Option Value → qS → Prop) (x1 : Int32) (x2 : Int32) (x3 : Int32) (x4 : Int32) (x5 : Nat) (x6 : Nat) (x7 : Int64) (x9 : Int64) (x11 : Int64) (x13 : Int64) (uo_1 : Nat) : Prop :=
  Ev (qGG D cA b E) mLong_compare_74951 0 (0, 0) 0 (lv_args 0 [.long x7, .long ((L ((o + 121) + 65) 0))]) [] (n, sh, Rf, I, L) (fun v τ => ∃ (r2 : Int32) (I3 : Nat → Nat → Int32) (L4 : Nat → Nat → Int64), v = some (.int r2) ∧ τ = (n, sh, Rf, I3, L4) ∧ ((¬ r2 = 0 → fOffice_judge_181 D cA b E o n sh Rf I3 L4 post x1 x2 x3 x4 x5 x6 x7 x9 x11 x13 r2 uo_1) ∧ (r2 = 0 → Ev (qGG D cA b E) mOffice_compareWaits 1 (0, 0) 0 (lv_args 0 [.long x9, .long x11, .long ((L4 ((o + 121) + 65) 8)), .long ((L4 ((o + 121) + 65) 9))]) [] (n, sh, Rf, I3, L4) (fun v τ => ∃ (r7 : Int32) (I8 : Nat → Nat → Int32) (L9 : Nat → Nat → Int64), v = some (.int r7) ∧ τ = (n, sh, Rf, I8, L9) ∧ fOffice_judge_181 D cA b E o n sh Rf I8 L9 post x1 x2 x3 x4 x5 x6 x7 x9 x11 x13 r7 uo_1))))
set_option maxHeartbeats 4000000 in
set_option maxRecDepth 20000 in
theorem sOffice_judge_131 {D : va_G} {cA : FieldType → ClassId} {b : Nat} {E : State → Prop} (o : Nat) (n : Nat) (sh : Nat → qC) (Rf : Nat → Nat → Option Nat) (I : Nat → Nat → Int32) (L : Nat → Nat → Int64) (post : Option Value → qS → Prop) (x1 : Int32) (x2 : Int32) (x3 : Int32) (x4 : Int32) (x5 : Nat) (x6 : Nat) (x7 : Int64) (x9 : Int64) (x11 : Int64) (x13 : Int64) (uo_1 : Nat) (hok : q_ok (qGG D cA b E)) (hw : WfOffice (qGG D cA b E) n sh Rf o) (hwx5 : WfReform (qGG D cA b E) n sh Rf x5) (hwx6 : WfReform (qGG D cA b E) n sh Rf x6) (huo_1 : Rf o 1 = some uo_1) (hwuo_1 : WfLand (qGG D cA b E) n sh Rf uo_1) (H : fOffice_judge_131 D cA b E o n sh Rf I L post x1 x2 x3 x4 x5 x6 x7 x9 x11 x13 uo_1) : Ev (qGG D cA b E) mOffice_judge 7 (0, 0) 131 [(0, .ref o), (1, .int x1), (2, .int x2), (3, .int x3), (4, .int x4), (5, .ref x5), (6, .ref x6), (7, .long x7), (9, .long x9), (11, .long x11), (13, .long x13)] [] (n, sh, Rf, I, L) post := by
  unfold fOffice_judge_131 at H
  refine ev_lload dOffice_judge_131 rfl ?_
  refine ev_aload_n dOffice_judge_133 rfl ?_
  refine ev_getR hok fk_Office_62 (woOffice hw) (fun _ _ _ => rfl) (wrOffice_9 hw) dOffice_judge_134 ?_
  refine ev_getR hok fk_Office_164 (woRun (wsOffice_9 hw)) (fun _ _ _ => rfl) (wrRun_14 (wsOffice_9 hw)) dOffice_judge_137 ?_
  refine ev_iconst (0) dOffice_judge_140 (by decide) ?_
  refine ev_lald hok (waRun_14 (wsOffice_9 hw)) (by unfold vp_in; decide) dOffice_judge_141 ?_
  rw [show (0 : Int32).toNatClampNeg = 0 from rfl]
  refine ev_callS [.long x7, .long ((L ((o + 121) + 65) 0))] [] (B' := (0, 0)) (B'' := (0, 0)) hok mmLong_compare_74951 mk_Office_228 rfl (Nat.le_of_ble_eq_true rfl) rfl (Nat.le_of_ble_eq_true rfl) dOffice_judge_142 rfl (by decide) H (fun v τ p1 => ?_)
  obtain ⟨r2, I3, L4, rfl, rfl, H⟩ := p1
  refine ev_istore dOffice_judge_145 (by decide) ?_
  refine ev_iload dOffice_judge_147 rfl ?_
  refine ev_if_ne 181 dOffice_judge_149 (by decide) (fun c5 => ?_) (fun c5 => ?_)
  · have H := H.1 c5
    exact ev_sub [(0, .ref o), (1, .int x1), (2, .int x2), (3, .int x3), (4, .int x4), (5, .ref x5), (6, .ref x6), (7, .long x7), (9, .long x9), (11, .long x11), (13, .long x13), (15, .int r2)] rfl (sOffice_judge_181 o n sh Rf I3 L4 post x1 x2 x3 x4 x5 x6 x7 x9 x11 x13 r2 uo_1 hok hw hwx5 hwx6 huo_1 hwuo_1 H)
  · have H := H.2 c5
    refine ev_lload dOffice_judge_152 rfl ?_
    refine ev_lload dOffice_judge_154 rfl ?_
    refine ev_aload_n dOffice_judge_156 rfl ?_
    refine ev_getR hok fk_Office_62 (woOffice hw) (fun _ _ _ => rfl) (wrOffice_9 hw) dOffice_judge_157 ?_
    refine ev_getR hok fk_Office_164 (woRun (wsOffice_9 hw)) (fun _ _ _ => rfl) (wrRun_14 (wsOffice_9 hw)) dOffice_judge_160 ?_
    refine ev_bipush (8) dOffice_judge_163 (by decide) ?_
    refine ev_lald hok (waRun_14 (wsOffice_9 hw)) (by unfold vp_in; decide) dOffice_judge_165 ?_
    rw [show (8 : Int32).toNatClampNeg = 8 from rfl]
    refine ev_aload_n dOffice_judge_166 rfl ?_
    refine ev_getR hok fk_Office_62 (woOffice hw) (fun _ _ _ => rfl) (wrOffice_9 hw) dOffice_judge_167 ?_
    refine ev_getR hok fk_Office_164 (woRun (wsOffice_9 hw)) (fun _ _ _ => rfl) (wrRun_14 (wsOffice_9 hw)) dOffice_judge_170 ?_
    refine ev_bipush (9) dOffice_judge_173 (by decide) ?_
    refine ev_lald hok (waRun_14 (wsOffice_9 hw)) (by unfold vp_in; decide) dOffice_judge_175 ?_
    rw [show (9 : Int32).toNatClampNeg = 9 from rfl]
    refine ev_callS [.long x9, .long x11, .long ((L4 ((o + 121) + 65) 8)), .long ((L4 ((o + 121) + 65) 9))] [] (B' := (0, 0)) (B'' := (0, 0)) hok mmOffice_compareWaits mk_Office_234 rfl (Nat.le_of_ble_eq_true rfl) rfl (Nat.le_of_ble_eq_true rfl) dOffice_judge_176 rfl (by decide) H (fun v τ p6 => ?_)
    obtain ⟨r7, I8, L9, rfl, rfl, H⟩ := p6
    refine ev_istore dOffice_judge_179 (by decide) ?_
    exact ev_sub [(0, .ref o), (1, .int x1), (2, .int x2), (3, .int x3), (4, .int x4), (5, .ref x5), (6, .ref x6), (7, .long x7), (9, .long x9), (11, .long x11), (13, .long x13), (15, .int r7)] rfl (sOffice_judge_181 o n sh Rf I8 L9 post x1 x2 x3 x4 x5 x6 x7 x9 x11 x13 r7 uo_1 hok hw hwx5 hwx6 huo_1 hwuo_1 H)
def fOffice_judge_61 (D : va_G) (cA : FieldType → ClassId) (b : Nat) (E : State → Prop) (o : Nat) (n : Nat) (sh : Nat → qC) (Rf : Nat → Nat → Option Nat) (I : Nat → Nat → Int32) (L : Nat → Nat → Int64) (post : Option Value → qS → Prop) (x1 : Int32) (x2 : Int32) (x3 : Int32) (x4 : Int32) (x5 : Nat) (x6 : Nat) (uo_1 : Nat) : Prop :=
  Ev (qGG D cA b E) mRun_play 6 (0, 0) 0 (lv_args 0 [.ref ((o + 121)), .ref uo_1, .ref ((o + 46)), .ref x6, .ref ((o + 48)), .int x3, .int x4]) [] (n, sh, Rf, I, L) (fun v τ => ∃ (Rf5 : Nat → Nat → Option Nat) (I3 : Nat → Nat → Int32) (L4 : Nat → Nat → Int64), v = none ∧ τ = (n, sh, Rf5, I3, L4) ∧ Ev (qGG D cA b E) mOffice_judge 7 (0, 0) 131 [(0, .ref o), (1, .int x1), (2, .int x2), (3, .int x3), (4, .int x4), (5, .ref x5), (6, .ref x6), (7, .long ((L ((o + 121) + 65) 0))), (9, .long ((L ((o + 121) + 65) 8))), (11, .long ((L ((o + 121) + 65) 9))), (13, .long ((L ((o + 121) + 65) 2)))] [] (n, sh, Rf5, I3, L4) post)
set_option maxHeartbeats 4000000 in
set_option maxRecDepth 20000 in
theorem sOffice_judge_61 {D : va_G} {cA : FieldType → ClassId} {b : Nat} {E : State → Prop} (o : Nat) (n : Nat) (sh : Nat → qC) (Rf : Nat → Nat → Option Nat) (I : Nat → Nat → Int32) (L : Nat → Nat → Int64) (post : Option Value → qS → Prop) (x1 : Int32) (x2 : Int32) (x3 : Int32) (x4 : Int32) (x5 : Nat) (x6 : Nat) (uo_1 : Nat) (hok : q_ok (qGG D cA b E)) (hw : WfOffice (qGG D cA b E) n sh Rf o) (hwx5 : WfReform (qGG D cA b E) n sh Rf x5) (hwx6 : WfReform (qGG D cA b E) n sh Rf x6) (huo_1 : Rf o 1 = some uo_1) (hwuo_1 : WfLand (qGG D cA b E) n sh Rf uo_1) (H : fOffice_judge_61 D cA b E o n sh Rf I L post x1 x2 x3 x4 x5 x6 uo_1) : Ev (qGG D cA b E) mOffice_judge 7 (0, 0) 61 [(0, .ref o), (1, .int x1), (2, .int x2), (3, .int x3), (4, .int x4), (5, .ref x5), (6, .ref x6)] [] (n, sh, Rf, I, L) post := by
  unfold fOffice_judge_61 at H
  refine ev_aload_n dOffice_judge_61 rfl ?_
  refine ev_getR hok fk_Office_62 (woOffice hw) (fun _ _ _ => rfl) (wrOffice_9 hw) dOffice_judge_62 ?_
  refine ev_getR hok fk_Office_164 (woRun (wsOffice_9 hw)) (fun _ _ _ => rfl) (wrRun_14 (wsOffice_9 hw)) dOffice_judge_65 ?_
  refine ev_iconst (0) dOffice_judge_68 (by decide) ?_
  refine ev_lald hok (waRun_14 (wsOffice_9 hw)) (by unfold vp_in; decide) dOffice_judge_69 ?_
  rw [show (0 : Int32).toNatClampNeg = 0 from rfl]
  refine ev_lstore dOffice_judge_70 (by decide) ?_
  refine ev_aload_n dOffice_judge_72 rfl ?_
  refine ev_getR hok fk_Office_62 (woOffice hw) (fun _ _ _ => rfl) (wrOffice_9 hw) dOffice_judge_73 ?_
  refine ev_getR hok fk_Office_164 (woRun (wsOffice_9 hw)) (fun _ _ _ => rfl) (wrRun_14 (wsOffice_9 hw)) dOffice_judge_76 ?_
  refine ev_bipush (8) dOffice_judge_79 (by decide) ?_
  refine ev_lald hok (waRun_14 (wsOffice_9 hw)) (by unfold vp_in; decide) dOffice_judge_81 ?_
  rw [show (8 : Int32).toNatClampNeg = 8 from rfl]
  refine ev_lstore dOffice_judge_82 (by decide) ?_
  refine ev_aload_n dOffice_judge_84 rfl ?_
  refine ev_getR hok fk_Office_62 (woOffice hw) (fun _ _ _ => rfl) (wrOffice_9 hw) dOffice_judge_85 ?_
  refine ev_getR hok fk_Office_164 (woRun (wsOffice_9 hw)) (fun _ _ _ => rfl) (wrRun_14 (wsOffice_9 hw)) dOffice_judge_88 ?_
  refine ev_bipush (9) dOffice_judge_91 (by decide) ?_
  refine ev_lald hok (waRun_14 (wsOffice_9 hw)) (by unfold vp_in; decide) dOffice_judge_93 ?_
  rw [show (9 : Int32).toNatClampNeg = 9 from rfl]
  refine ev_lstore dOffice_judge_94 (by decide) ?_
  refine ev_aload_n dOffice_judge_96 rfl ?_
  refine ev_getR hok fk_Office_62 (woOffice hw) (fun _ _ _ => rfl) (wrOffice_9 hw) dOffice_judge_97 ?_
  refine ev_getR hok fk_Office_164 (woRun (wsOffice_9 hw)) (fun _ _ _ => rfl) (wrRun_14 (wsOffice_9 hw)) dOffice_judge_100 ?_
  refine ev_iconst (2) dOffice_judge_103 (by decide) ?_
  refine ev_lald hok (waRun_14 (wsOffice_9 hw)) (by unfold vp_in; decide) dOffice_judge_104 ?_
  rw [show (2 : Int32).toNatClampNeg = 2 from rfl]
  refine ev_lstore dOffice_judge_105 (by decide) ?_
  refine ev_aload_n dOffice_judge_107 rfl ?_
  refine ev_getR hok fk_Office_62 (woOffice hw) (fun _ _ _ => rfl) (wrOffice_9 hw) dOffice_judge_108 ?_
  refine ev_aload_n dOffice_judge_111 rfl ?_
  refine ev_getR hok fk_Office_19 (woOffice hw) (fun _ _ _ => rfl) huo_1 dOffice_judge_112 ?_
  refine ev_aload_n dOffice_judge_115 rfl ?_
  refine ev_getR hok fk_Office_40 (woOffice hw) (fun _ _ _ => rfl) (wrOffice_5 hw) dOffice_judge_116 ?_
  refine ev_aload dOffice_judge_119 rfl ?_
  refine ev_aload_n dOffice_judge_121 rfl ?_
  refine ev_getR hok fk_Office_47 (woOffice hw) (fun _ _ _ => rfl) (wrOffice_6 hw) dOffice_judge_122 ?_
  refine ev_iload_n dOffice_judge_125 rfl ?_
  refine ev_iload dOffice_judge_126 rfl ?_
  refine ev_callV [.ref uo_1, .ref ((o + 46)), .ref x6, .ref ((o + 48)), .int x3, .int x4] [] (B' := (0, 0)) (B'' := (0, 0)) hok mmRun_play mk_Office_151 (ci := 7) rfl rfl (woRun (wsOffice_9 hw)) rfl (Nat.le_of_ble_eq_true rfl) rfl (Nat.le_of_ble_eq_true rfl) dOffice_judge_128 rfl (by decide) H (fun v τ p1 => ?_)
  obtain ⟨Rf5, I3, L4, rfl, rfl, H⟩ := p1
  exact ev_sub [(0, .ref o), (1, .int x1), (2, .int x2), (3, .int x3), (4, .int x4), (5, .ref x5), (6, .ref x6), (7, .long ((L ((o + 121) + 65) 0))), (9, .long ((L ((o + 121) + 65) 8))), (11, .long ((L ((o + 121) + 65) 9))), (13, .long ((L ((o + 121) + 65) 2)))] rfl H
def fOffice_judge_0 (D : va_G) (cA : FieldType → ClassId) (b : Nat) (E : State → Prop) (o : Nat) (n : Nat) (sh : Nat → qC) (Rf : Nat → Nat → Option Nat) (I : Nat → Nat → Int32) (L : Nat → Nat → Int64) (post : Option Value → qS → Prop) (x1 : Int32) (x2 : Int32) (x3 : Int32) (x4 : Int32) (uo_1 : Nat) : Prop :=
  Ev (qGG D cA b E) mOffice_shelfAt 0 (0, 0) 0 (lv_args 0 [.ref o, .int x1]) [] (n, sh, Rf, I, L) (fun v τ => ∃ (I7 : Nat → Nat → Int32) (L8 : Nat → Nat → Int64), τ = (n, sh, Rf, I7, L8) ∧ ((v = some .null ∧ Ev (qGG D cA b E) mOffice_shelfAt 0 (0, 0) 0 (lv_args 0 [.ref o, .int x2]) [] (n, sh, Rf, I7, L8) (fun v τ => ∃ (I15 : Nat → Nat → Int32) (L16 : Nat → Nat → Int64), τ = (n, sh, Rf, I15, L16) ∧ ((v = some .null ∧ post (some (.int ((-1)))) (n, sh, Rf, I15, L16)) ∨ ∃ r14 : Nat, v = some (.ref r14) ∧ WfReform (qGG D cA b E) n sh Rf r14 ∧ post (some (.int ((-1)))) (n, sh, Rf, I15, L16)))) ∨ ∃ r6 : Nat, v = some (.ref r6) ∧ WfReform (qGG D cA b E) n sh Rf r6 ∧ Ev (qGG D cA b E) mOffice_shelfAt 0 (0, 0) 0 (lv_args 0 [.ref o, .int x2]) [] (n, sh, Rf, I7, L8) (fun v τ => ∃ (I23 : Nat → Nat → Int32) (L24 : Nat → Nat → Int64), τ = (n, sh, Rf, I23, L24) ∧ ((v = some .null ∧ post (some (.int ((-1)))) (n, sh, Rf, I23, L24)) ∨ ∃ r22 : Nat, v = some (.ref r22) ∧ WfReform (qGG D cA b E) n sh Rf r22 ∧ ((x3 < 0 → post (some (.int ((-1)))) (n, sh, Rf, I23, L24)) ∧ (¬ x3 < 0 → ((x3 ≤ 240 → Ev (qGG D cA b E) mRun_play 6 (0, 0) 0 (lv_args 0 [.ref ((o + 121)), .ref uo_1, .ref ((o + 46)), .ref r6, .ref ((o + 48)), .int x3, .int x4]) [] (n, sh, Rf, I23, L24) (fun v τ => ∃ (Rf31 : Nat → Nat → Option Nat) (I29 : Nat → Nat → Int32) (L30 : Nat → Nat → Int64), v = none ∧ τ = (n, sh, Rf31, I29, L30) ∧ Ev (qGG D cA b E) mOffice_judge 7 (0, 0) 61 [(0, .ref o), (1, .int x1), (2, .int x2), (3, .int x3), (4, .int x4), (5, .ref r6), (6, .ref r22)] [] (n, sh, Rf31, I29, L30) post)) ∧ (¬ x3 ≤ 240 → post (some (.int ((-1)))) (n, sh, Rf, I23, L24)))))))))
set_option maxHeartbeats 4000000 in
set_option maxRecDepth 20000 in
theorem sOffice_judge_0 {D : va_G} {cA : FieldType → ClassId} {b : Nat} {E : State → Prop} (o : Nat) (n : Nat) (sh : Nat → qC) (Rf : Nat → Nat → Option Nat) (I : Nat → Nat → Int32) (L : Nat → Nat → Int64) (post : Option Value → qS → Prop) (x1 : Int32) (x2 : Int32) (x3 : Int32) (x4 : Int32) (uo_1 : Nat) (hok : q_ok (qGG D cA b E)) (hw : WfOffice (qGG D cA b E) n sh Rf o) (huo_1 : Rf o 1 = some uo_1) (hwuo_1 : WfLand (qGG D cA b E) n sh Rf uo_1) (H : fOffice_judge_0 D cA b E o n sh Rf I L post x1 x2 x3 x4 uo_1) : Ev (qGG D cA b E) mOffice_judge 7 (0, 0) 0 [(0, .ref o), (1, .int x1), (2, .int x2), (3, .int x3), (4, .int x4)] [] (n, sh, Rf, I, L) post := by
  unfold fOffice_judge_0 at H
  refine ev_aload_n dOffice_judge_0 rfl ?_
  refine ev_iload_n dOffice_judge_1 rfl ?_
  refine ev_callV [.int x1] [] (B' := (0, 0)) (B'' := (0, 0)) hok mmOffice_shelfAt mk_Office_147 (ci := 11) rfl rfl (woOffice hw) rfl (Nat.le_of_ble_eq_true rfl) rfl (Nat.le_of_ble_eq_true rfl) dOffice_judge_2 rfl (by decide) H (fun v τ p5 => ?_)
  obtain ⟨I7, L8, rfl, ⟨rfl, H⟩ | ⟨r6, rfl, hwr6, H⟩⟩ := p5
  · refine ev_astoreN dOffice_judge_5 (by decide) ?_
    refine ev_aload_n dOffice_judge_7 rfl ?_
    refine ev_iload_n dOffice_judge_8 rfl ?_
    refine ev_callV [.int x2] [] (B' := (0, 0)) (B'' := (0, 0)) hok mmOffice_shelfAt mk_Office_147 (ci := 11) rfl rfl (woOffice hw) rfl (Nat.le_of_ble_eq_true rfl) rfl (Nat.le_of_ble_eq_true rfl) dOffice_judge_9 rfl (by decide) H (fun v τ p13 => ?_)
    obtain ⟨I15, L16, rfl, ⟨rfl, H⟩ | ⟨r14, rfl, hwr14, H⟩⟩ := p13
    · refine ev_astoreN dOffice_judge_12 (by decide) ?_
      refine ev_aloadN dOffice_judge_14 rfl ?_
      refine ev_ifnullN 35 dOffice_judge_16 (by decide) ?_
      refine ev_iconst (-1) dOffice_judge_35 (by decide) ?_
      exact ev_iret rfl dOffice_judge_36 H
    · refine ev_astore dOffice_judge_12 (by decide) ?_
      refine ev_aloadN dOffice_judge_14 rfl ?_
      refine ev_ifnullN 35 dOffice_judge_16 (by decide) ?_
      refine ev_iconst (-1) dOffice_judge_35 (by decide) ?_
      exact ev_iret rfl dOffice_judge_36 H
  · refine ev_astore dOffice_judge_5 (by decide) ?_
    refine ev_aload_n dOffice_judge_7 rfl ?_
    refine ev_iload_n dOffice_judge_8 rfl ?_
    refine ev_callV [.int x2] [] (B' := (0, 0)) (B'' := (0, 0)) hok mmOffice_shelfAt mk_Office_147 (ci := 11) rfl rfl (woOffice hw) rfl (Nat.le_of_ble_eq_true rfl) rfl (Nat.le_of_ble_eq_true rfl) dOffice_judge_9 rfl (by decide) H (fun v τ p21 => ?_)
    obtain ⟨I23, L24, rfl, ⟨rfl, H⟩ | ⟨r22, rfl, hwr22, H⟩⟩ := p21
    · refine ev_astoreN dOffice_judge_12 (by decide) ?_
      refine ev_aload dOffice_judge_14 rfl ?_
      refine ev_ifnull dOffice_judge_16 ?_
      refine ev_aloadN dOffice_judge_19 rfl ?_
      refine ev_ifnullN 35 dOffice_judge_21 (by decide) ?_
      refine ev_iconst (-1) dOffice_judge_35 (by decide) ?_
      exact ev_iret rfl dOffice_judge_36 H
    · refine ev_astore dOffice_judge_12 (by decide) ?_
      refine ev_aload dOffice_judge_14 rfl ?_
      refine ev_ifnull dOffice_judge_16 ?_
      refine ev_aload dOffice_judge_19 rfl ?_
      refine ev_ifnull dOffice_judge_21 ?_
      refine ev_iload_n dOffice_judge_24 rfl ?_
      refine ev_if_lt 35 dOffice_judge_25 (by decide) (fun c25 => ?_) (fun c25 => ?_)
      · have H := H.1 c25
        refine ev_iconst (-1) dOffice_judge_35 (by decide) ?_
        exact ev_iret rfl dOffice_judge_36 H
      · have H := H.2 c25
        refine ev_iload_n dOffice_judge_28 rfl ?_
        refine ev_sipush (240) dOffice_judge_29 (by decide) ?_
        refine ev_icmp_le 37 dOffice_judge_32 (by decide) (fun c26 => ?_) (fun c26 => ?_)
        · have H := H.1 c26
          refine ev_aload_n dOffice_judge_37 rfl ?_
          refine ev_getR hok fk_Office_62 (woOffice hw) (fun _ _ _ => rfl) (wrOffice_9 hw) dOffice_judge_38 ?_
          refine ev_aload_n dOffice_judge_41 rfl ?_
          refine ev_getR hok fk_Office_19 (woOffice hw) (fun _ _ _ => rfl) huo_1 dOffice_judge_42 ?_
          refine ev_aload_n dOffice_judge_45 rfl ?_
          refine ev_getR hok fk_Office_40 (woOffice hw) (fun _ _ _ => rfl) (wrOffice_5 hw) dOffice_judge_46 ?_
          refine ev_aload dOffice_judge_49 rfl ?_
          refine ev_aload_n dOffice_judge_51 rfl ?_
          refine ev_getR hok fk_Office_47 (woOffice hw) (fun _ _ _ => rfl) (wrOffice_6 hw) dOffice_judge_52 ?_
          refine ev_iload_n dOffice_judge_55 rfl ?_
          refine ev_iload dOffice_judge_56 rfl ?_
          refine ev_callV [.ref uo_1, .ref ((o + 46)), .ref r6, .ref ((o + 48)), .int x3, .int x4] [] (B' := (0, 0)) (B'' := (0, 0)) hok mmRun_play mk_Office_151 (ci := 7) rfl rfl (woRun (wsOffice_9 hw)) rfl (Nat.le_of_ble_eq_true rfl) rfl (Nat.le_of_ble_eq_true rfl) dOffice_judge_58 rfl (by decide) H (fun v τ p27 => ?_)
          obtain ⟨Rf31, I29, L30, rfl, rfl, H⟩ := p27
          exact ev_sub [(0, .ref o), (1, .int x1), (2, .int x2), (3, .int x3), (4, .int x4), (5, .ref r6), (6, .ref r22)] rfl H
        · have H := H.2 c26
          refine ev_iconst (-1) dOffice_judge_35 (by decide) ?_
          exact ev_iret rfl dOffice_judge_36 H
def fOffice_run_48 (D : va_G) (cA : FieldType → ClassId) (b : Nat) (E : State → Prop) (o : Nat) (n : Nat) (sh : Nat → qC) (Rf : Nat → Nat → Option Nat) (I : Nat → Nat → Int32) (L : Nat → Nat → Int64) (post : Option Value → qS → Prop) (x1 : Int32) (x2 : Int32) (x3 : Int32) (x4 : Nat) (uo_1 : Nat) : Prop :=
  post (some (.int ((I ((o + 55) + 31) 12)))) (n, sh, Rf, I, L)
set_option maxHeartbeats 4000000 in
set_option maxRecDepth 20000 in
theorem sOffice_run_48 {D : va_G} {cA : FieldType → ClassId} {b : Nat} {E : State → Prop} (o : Nat) (n : Nat) (sh : Nat → qC) (Rf : Nat → Nat → Option Nat) (I : Nat → Nat → Int32) (L : Nat → Nat → Int64) (post : Option Value → qS → Prop) (x1 : Int32) (x2 : Int32) (x3 : Int32) (x4 : Nat) (uo_1 : Nat) (hok : q_ok (qGG D cA b E)) (hw : WfOffice (qGG D cA b E) n sh Rf o) (hwx4 : WfReform (qGG D cA b E) n sh Rf x4) (huo_1 : Rf o 1 = some uo_1) (hwuo_1 : WfLand (qGG D cA b E) n sh Rf uo_1) (H : fOffice_run_48 D cA b E o n sh Rf I L post x1 x2 x3 x4 uo_1) : Ev (qGG D cA b E) mOffice_run 7 (0, 0) 48 [(0, .ref o), (1, .int x1), (2, .int x2), (3, .int x3), (4, .ref x4)] [] (n, sh, Rf, I, L) post := by
  unfold fOffice_run_48 at H
  refine ev_aload_n dOffice_run_48 rfl ?_
  refine ev_getR hok fk_Office_58 (woOffice hw) (fun _ _ _ => rfl) (wrOffice_8 hw) dOffice_run_49 ?_
  refine ev_getR hok fk_Office_155 (woRun (wsOffice_8 hw)) (fun _ _ _ => rfl) (wrRun_4 (wsOffice_8 hw)) dOffice_run_52 ?_
  refine ev_getI hok fk_Office_159 (woPapers (wsRun_4 (wsOffice_8 hw))) (fun _ _ _ => rfl) dOffice_run_55 ?_
  exact ev_iret rfl dOffice_run_58 H
def fOffice_run_0 (D : va_G) (cA : FieldType → ClassId) (b : Nat) (E : State → Prop) (o : Nat) (n : Nat) (sh : Nat → qC) (Rf : Nat → Nat → Option Nat) (I : Nat → Nat → Int32) (L : Nat → Nat → Int64) (post : Option Value → qS → Prop) (x1 : Int32) (x2 : Int32) (x3 : Int32) (uo_1 : Nat) : Prop :=
  Ev (qGG D cA b E) mOffice_shelfAt 0 (0, 0) 0 (lv_args 0 [.ref o, .int x1]) [] (n, sh, Rf, I, L) (fun v τ => ∃ (I7 : Nat → Nat → Int32) (L8 : Nat → Nat → Int64), τ = (n, sh, Rf, I7, L8) ∧ ((v = some .null ∧ post (some (.int ((-1)))) (n, sh, Rf, I7, L8)) ∨ ∃ r6 : Nat, v = some (.ref r6) ∧ WfReform (qGG D cA b E) n sh Rf r6 ∧ ((x2 < 0 → post (some (.int ((-1)))) (n, sh, Rf, I7, L8)) ∧ (¬ x2 < 0 → ((x2 ≤ 240 → Ev (qGG D cA b E) mRun_play 6 (0, 0) 0 (lv_args 0 [.ref ((o + 55)), .ref uo_1, .ref ((o + 46)), .ref r6, .ref ((o + 48)), .int x2, .int x3]) [] (n, sh, Rf, I7, L8) (fun v τ => ∃ (Rf15 : Nat → Nat → Option Nat) (I13 : Nat → Nat → Int32) (L14 : Nat → Nat → Int64), v = none ∧ τ = (n, sh, Rf15, I13, L14) ∧ Ev (qGG D cA b E) mOffice_run 7 (0, 0) 48 [(0, .ref o), (1, .int x1), (2, .int x2), (3, .int x3), (4, .ref r6)] [] (n, sh, Rf15, I13, L14) post)) ∧ (¬ x2 ≤ 240 → post (some (.int ((-1)))) (n, sh, Rf, I7, L8)))))))
set_option maxHeartbeats 4000000 in
set_option maxRecDepth 20000 in
theorem sOffice_run_0 {D : va_G} {cA : FieldType → ClassId} {b : Nat} {E : State → Prop} (o : Nat) (n : Nat) (sh : Nat → qC) (Rf : Nat → Nat → Option Nat) (I : Nat → Nat → Int32) (L : Nat → Nat → Int64) (post : Option Value → qS → Prop) (x1 : Int32) (x2 : Int32) (x3 : Int32) (uo_1 : Nat) (hok : q_ok (qGG D cA b E)) (hw : WfOffice (qGG D cA b E) n sh Rf o) (huo_1 : Rf o 1 = some uo_1) (hwuo_1 : WfLand (qGG D cA b E) n sh Rf uo_1) (H : fOffice_run_0 D cA b E o n sh Rf I L post x1 x2 x3 uo_1) : Ev (qGG D cA b E) mOffice_run 7 (0, 0) 0 [(0, .ref o), (1, .int x1), (2, .int x2), (3, .int x3)] [] (n, sh, Rf, I, L) post := by
  unfold fOffice_run_0 at H
  refine ev_aload_n dOffice_run_0 rfl ?_
  refine ev_iload_n dOffice_run_1 rfl ?_
  refine ev_callV [.int x1] [] (B' := (0, 0)) (B'' := (0, 0)) hok mmOffice_shelfAt mk_Office_147 (ci := 11) rfl rfl (woOffice hw) rfl (Nat.le_of_ble_eq_true rfl) rfl (Nat.le_of_ble_eq_true rfl) dOffice_run_2 rfl (by decide) H (fun v τ p5 => ?_)
  obtain ⟨I7, L8, rfl, ⟨rfl, H⟩ | ⟨r6, rfl, hwr6, H⟩⟩ := p5
  · refine ev_astoreN dOffice_run_5 (by decide) ?_
    refine ev_aloadN dOffice_run_7 rfl ?_
    refine ev_ifnullN 23 dOffice_run_9 (by decide) ?_
    refine ev_iconst (-1) dOffice_run_23 (by decide) ?_
    exact ev_iret rfl dOffice_run_24 H
  · refine ev_astore dOffice_run_5 (by decide) ?_
    refine ev_aload dOffice_run_7 rfl ?_
    refine ev_ifnull dOffice_run_9 ?_
    refine ev_iload_n dOffice_run_12 rfl ?_
    refine ev_if_lt 23 dOffice_run_13 (by decide) (fun c9 => ?_) (fun c9 => ?_)
    · have H := H.1 c9
      refine ev_iconst (-1) dOffice_run_23 (by decide) ?_
      exact ev_iret rfl dOffice_run_24 H
    · have H := H.2 c9
      refine ev_iload_n dOffice_run_16 rfl ?_
      refine ev_sipush (240) dOffice_run_17 (by decide) ?_
      refine ev_icmp_le 25 dOffice_run_20 (by decide) (fun c10 => ?_) (fun c10 => ?_)
      · have H := H.1 c10
        refine ev_aload_n dOffice_run_25 rfl ?_
        refine ev_getR hok fk_Office_58 (woOffice hw) (fun _ _ _ => rfl) (wrOffice_8 hw) dOffice_run_26 ?_
        refine ev_aload_n dOffice_run_29 rfl ?_
        refine ev_getR hok fk_Office_19 (woOffice hw) (fun _ _ _ => rfl) huo_1 dOffice_run_30 ?_
        refine ev_aload_n dOffice_run_33 rfl ?_
        refine ev_getR hok fk_Office_40 (woOffice hw) (fun _ _ _ => rfl) (wrOffice_5 hw) dOffice_run_34 ?_
        refine ev_aload dOffice_run_37 rfl ?_
        refine ev_aload_n dOffice_run_39 rfl ?_
        refine ev_getR hok fk_Office_47 (woOffice hw) (fun _ _ _ => rfl) (wrOffice_6 hw) dOffice_run_40 ?_
        refine ev_iload_n dOffice_run_43 rfl ?_
        refine ev_iload_n dOffice_run_44 rfl ?_
        refine ev_callV [.ref uo_1, .ref ((o + 46)), .ref r6, .ref ((o + 48)), .int x2, .int x3] [] (B' := (0, 0)) (B'' := (0, 0)) hok mmRun_play mk_Office_151 (ci := 7) rfl rfl (woRun (wsOffice_8 hw)) rfl (Nat.le_of_ble_eq_true rfl) rfl (Nat.le_of_ble_eq_true rfl) dOffice_run_45 rfl (by decide) H (fun v τ p11 => ?_)
        obtain ⟨Rf15, I13, L14, rfl, rfl, H⟩ := p11
        exact ev_sub [(0, .ref o), (1, .int x1), (2, .int x2), (3, .int x3), (4, .ref r6)] rfl H
      · have H := H.2 c10
        refine ev_iconst (-1) dOffice_run_23 (by decide) ?_
        exact ev_iret rfl dOffice_run_24 H
def fTape_startReading_68 (D : va_G) (cA : FieldType → ClassId) (b : Nat) (E : State → Prop) (o : Nat) (n : Nat) (sh : Nat → qC) (Rf : Nat → Nat → Option Nat) (I : Nat → Nat → Int32) (L : Nat → Nat → Int64) (post : Option Value → qS → Prop) (x1 : Int32) (x2 : Int32) (x3 : Int32) (x4 : Int32) (z0 : Int32) : Prop :=
  Ev (qGG D cA b E) mTape_startReading 9 (0, 0) 22 [(0, .ref o), (1, .int x1), (2, .int x2), (3, .int z0), (4, .int ((x4 + Int32.ofInt 1)))] [] (n, sh, Rf, I, L) post
set_option maxHeartbeats 4000000 in
set_option maxRecDepth 20000 in
theorem sTape_startReading_68 {D : va_G} {cA : FieldType → ClassId} {b : Nat} {E : State → Prop} (o : Nat) (n : Nat) (sh : Nat → qC) (Rf : Nat → Nat → Option Nat) (I : Nat → Nat → Int32) (L : Nat → Nat → Int64) (post : Option Value → qS → Prop) (x1 : Int32) (x2 : Int32) (x3 : Int32) (x4 : Int32) (z0 : Int32) (hok : q_ok (qGG D cA b E)) (hw : WfTape (qGG D cA b E) n sh Rf o) (H : fTape_startReading_68 D cA b E o n sh Rf I L post x1 x2 x3 x4 z0) : Ev (qGG D cA b E) mTape_startReading 9 (0, 0) 68 [(0, .ref o), (1, .int x1), (2, .int x2), (3, .int x3), (4, .int x4)] [.int z0] (n, sh, Rf, I, L) post := by
  unfold fTape_startReading_68 at H
  refine ev_istore_n dTape_startReading_68 (by decide) ?_
  refine ev_iinc dTape_startReading_69 rfl (by decide) ?_
  refine ev_goto 22 dTape_startReading_72 (by decide) ?_
  exact ev_sub [(0, .ref o), (1, .int x1), (2, .int x2), (3, .int z0), (4, .int ((x4 + Int32.ofInt 1)))] rfl H
def fTape_startReading_67 (D : va_G) (cA : FieldType → ClassId) (b : Nat) (E : State → Prop) (o : Nat) (n : Nat) (sh : Nat → qC) (Rf : Nat → Nat → Option Nat) (I : Nat → Nat → Int32) (L : Nat → Nat → Int64) (post : Option Value → qS → Prop) (x1 : Int32) (x2 : Int32) (x3 : Int32) (x4 : Int32) : Prop :=
  fTape_startReading_68 D cA b E o n sh Rf I L post x1 x2 x3 x4 0
set_option maxHeartbeats 4000000 in
set_option maxRecDepth 20000 in
theorem sTape_startReading_67 {D : va_G} {cA : FieldType → ClassId} {b : Nat} {E : State → Prop} (o : Nat) (n : Nat) (sh : Nat → qC) (Rf : Nat → Nat → Option Nat) (I : Nat → Nat → Int32) (L : Nat → Nat → Int64) (post : Option Value → qS → Prop) (x1 : Int32) (x2 : Int32) (x3 : Int32) (x4 : Int32) (hok : q_ok (qGG D cA b E)) (hw : WfTape (qGG D cA b E) n sh Rf o) (H : fTape_startReading_67 D cA b E o n sh Rf I L post x1 x2 x3 x4) : Ev (qGG D cA b E) mTape_startReading 9 (0, 0) 67 [(0, .ref o), (1, .int x1), (2, .int x2), (3, .int x3), (4, .int x4)] [] (n, sh, Rf, I, L) post := by
  unfold fTape_startReading_67 at H
  refine ev_iconst (0) dTape_startReading_67 (by decide) ?_
  exact ev_sub [(0, .ref o), (1, .int x1), (2, .int x2), (3, .int x3), (4, .int x4)] rfl (sTape_startReading_68 o n sh Rf I L post x1 x2 x3 x4 0 hok hw H)
def fTape_startReading_22 (D : va_G) (cA : FieldType → ClassId) (b : Nat) (E : State → Prop) (o : Nat) (n : Nat) (sh : Nat → qC) (Rf : Nat → Nat → Option Nat) (I : Nat → Nat → Int32) (L : Nat → Nat → Int64) (post : Option Value → qS → Prop) (x1 : Int32) (x2 : Int32) (x3 : Int32) (x4 : Int32) : Prop :=
  ((1601 ≤ x4 → ∀ I2 : Nat → Nat → Int32, q_u I o 10 0 = I2 → post none (n, sh, Rf, I2, L)) ∧ (¬ 1601 ≤ x4 → ((x3 = 0 → ∀ I4 : Nat → Nat → Int32, q_u I o 10 0 = I4 → post none (n, sh, Rf, I4, L)) ∧ (¬ x3 = 0 → Ev (qGG D cA b E) mTape_cutToken 8 (0, 0) 0 (lv_args 0 [.ref o, .int x4, .int x2]) [] (n, sh, Rf, I, L) (fun v τ => ∃ (r6 : Int32) (I7 : Nat → Nat → Int32) (L8 : Nat → Nat → Int64), v = some (.int r6) ∧ τ = (n, sh, Rf, I7, L8) ∧ vp_in x4 1601 ∧ (((I7 (o + 3) (x4 : Int32).toNatClampNeg) = 0 → fTape_startReading_67 D cA b E o n sh Rf I7 L8 post x1 r6 x3 x4) ∧ (¬ (I7 (o + 3) (x4 : Int32).toNatClampNeg) = 0 → vp_in x4 1601 ∧ (((I7 (o + 3) (x4 : Int32).toNatClampNeg) = 5 → fTape_startReading_67 D cA b E o n sh Rf I7 L8 post x1 r6 x3 x4) ∧ (¬ (I7 (o + 3) (x4 : Int32).toNatClampNeg) = 5 → fTape_startReading_68 D cA b E o n sh Rf I7 L8 post x1 r6 x3 x4 1)))))))))
set_option maxHeartbeats 4000000 in
set_option maxRecDepth 20000 in
theorem sTape_startReading_22 {D : va_G} {cA : FieldType → ClassId} {b : Nat} {E : State → Prop} (o : Nat) (n : Nat) (sh : Nat → qC) (Rf : Nat → Nat → Option Nat) (I : Nat → Nat → Int32) (L : Nat → Nat → Int64) (post : Option Value → qS → Prop) (x1 : Int32) (x2 : Int32) (x3 : Int32) (x4 : Int32) (hok : q_ok (qGG D cA b E)) (hw : WfTape (qGG D cA b E) n sh Rf o) (H : fTape_startReading_22 D cA b E o n sh Rf I L post x1 x2 x3 x4) : Ev (qGG D cA b E) mTape_startReading 9 (0, 0) 22 [(0, .ref o), (1, .int x1), (2, .int x2), (3, .int x3), (4, .int x4)] [] (n, sh, Rf, I, L) post := by
  unfold fTape_startReading_22 at H
  refine ev_iload dTape_startReading_22 rfl ?_
  refine ev_sipush (1601) dTape_startReading_24 (by decide) ?_
  refine ev_icmp_ge 75 dTape_startReading_27 (by decide) (fun c1 => ?_) (fun c1 => ?_)
  · have H := H.1 c1
    refine ev_aload_n dTape_startReading_75 rfl ?_
    refine ev_iconst (0) dTape_startReading_76 (by decide) ?_
    refine ev_putI hok fk_Tape_45 (woTape hw) (fun _ _ _ => rfl) rfl rfl dTape_startReading_77 ?_
    generalize eI2 : q_u I o 10 0 = I2
    have H := H I2 eI2
    exact ev_vret rfl dTape_startReading_80 H
  · have H := H.2 c1
    refine ev_iload_n dTape_startReading_30 rfl ?_
    refine ev_if_eq 75 dTape_startReading_31 (by decide) (fun c3 => ?_) (fun c3 => ?_)
    · have H := H.1 c3
      refine ev_aload_n dTape_startReading_75 rfl ?_
      refine ev_iconst (0) dTape_startReading_76 (by decide) ?_
      refine ev_putI hok fk_Tape_45 (woTape hw) (fun _ _ _ => rfl) rfl rfl dTape_startReading_77 ?_
      generalize eI4 : q_u I o 10 0 = I4
      have H := H I4 eI4
      exact ev_vret rfl dTape_startReading_80 H
    · have H := H.2 c3
      refine ev_aload_n dTape_startReading_34 rfl ?_
      refine ev_iload dTape_startReading_35 rfl ?_
      refine ev_iload_n dTape_startReading_37 rfl ?_
      refine ev_callV [.int x4, .int x2] [] (B' := (0, 0)) (B'' := (0, 0)) hok mmTape_cutToken mk_Tape_67 (ci := 8) rfl rfl (woTape hw) rfl (Nat.le_of_ble_eq_true rfl) rfl (Nat.le_of_ble_eq_true rfl) dTape_startReading_38 rfl (by decide) H (fun v τ p5 => ?_)
      obtain ⟨r6, I7, L8, rfl, rfl, H⟩ := p5
      refine ev_istore_n dTape_startReading_41 (by decide) ?_
      refine ev_aload_n dTape_startReading_42 rfl ?_
      refine ev_getR hok fk_Tape_19 (woTape hw) (fun _ _ _ => rfl) (wrTape_2 hw) dTape_startReading_43 ?_
      refine ev_iload dTape_startReading_46 rfl ?_
      obtain ⟨h9, H⟩ := H
      refine ev_iald hok (waTape_2 hw) h9 dTape_startReading_48 ?_
      refine ev_if_eq 67 dTape_startReading_49 (by decide) (fun c10 => ?_) (fun c10 => ?_)
      · have H := H.1 c10
        exact ev_sub [(0, .ref o), (1, .int x1), (2, .int r6), (3, .int x3), (4, .int x4)] rfl (sTape_startReading_67 o n sh Rf I7 L8 post x1 r6 x3 x4 hok hw H)
      · have H := H.2 c10
        refine ev_aload_n dTape_startReading_52 rfl ?_
        refine ev_getR hok fk_Tape_19 (woTape hw) (fun _ _ _ => rfl) (wrTape_2 hw) dTape_startReading_53 ?_
        refine ev_iload dTape_startReading_56 rfl ?_
        obtain ⟨h11, H⟩ := H
        refine ev_iald hok (waTape_2 hw) h11 dTape_startReading_58 ?_
        refine ev_iconst (5) dTape_startReading_59 (by decide) ?_
        refine ev_icmp_eq 67 dTape_startReading_60 (by decide) (fun c12 => ?_) (fun c12 => ?_)
        · have H := H.1 c12
          exact ev_sub [(0, .ref o), (1, .int x1), (2, .int r6), (3, .int x3), (4, .int x4)] rfl (sTape_startReading_67 o n sh Rf I7 L8 post x1 r6 x3 x4 hok hw H)
        · have H := H.2 c12
          refine ev_iconst (1) dTape_startReading_63 (by decide) ?_
          refine ev_goto 68 dTape_startReading_64 (by decide) ?_
          exact ev_sub [(0, .ref o), (1, .int x1), (2, .int r6), (3, .int x3), (4, .int x4)] rfl (sTape_startReading_68 o n sh Rf I7 L8 post x1 r6 x3 x4 1 hok hw H)
def fTape_startReading_0 (D : va_G) (cA : FieldType → ClassId) (b : Nat) (E : State → Prop) (o : Nat) (n : Nat) (sh : Nat → qC) (Rf : Nat → Nat → Option Nat) (I : Nat → Nat → Int32) (L : Nat → Nat → Int64) (post : Option Value → qS → Prop) (x1 : Int32) : Prop :=
  (x1 = 0 ∨ x1 = 1) ∧ ∀ I1 : Nat → Nat → Int32, q_u I o 9 x1 = I1 → ∀ I3 : Nat → Nat → Int32, q_u I1 o 7 0 = I3 → ∀ I4 : Nat → Nat → Int32, q_u I3 o 8 (-1) = I4 → Ev (qGG D cA b E) mTape_startReading 9 (0, 0) 22 [(0, .ref o), (1, .int x1), (2, .int 0), (3, .int 1), (4, .int 0)] [] (n, sh, Rf, I4, L) post
set_option maxHeartbeats 4000000 in
set_option maxRecDepth 20000 in
theorem sTape_startReading_0 {D : va_G} {cA : FieldType → ClassId} {b : Nat} {E : State → Prop} (o : Nat) (n : Nat) (sh : Nat → qC) (Rf : Nat → Nat → Option Nat) (I : Nat → Nat → Int32) (L : Nat → Nat → Int64) (post : Option Value → qS → Prop) (x1 : Int32) (hok : q_ok (qGG D cA b E)) (hw : WfTape (qGG D cA b E) n sh Rf o) (H : fTape_startReading_0 D cA b E o n sh Rf I L post x1) : Ev (qGG D cA b E) mTape_startReading 9 (0, 0) 0 [(0, .ref o), (1, .int x1)] [] (n, sh, Rf, I, L) post := by
  unfold fTape_startReading_0 at H
  refine ev_aload_n dTape_startReading_0 rfl ?_
  refine ev_iload_n dTape_startReading_1 rfl ?_
  obtain ⟨h2, H⟩ := H
  refine ev_putI hok fk_Tape_41 (woTape hw) (fun _ _ _ => rfl) (q_bz h2) (q_bf h2) dTape_startReading_2 ?_
  generalize eI1 : q_u I o 9 x1 = I1
  have H := H I1 eI1
  refine ev_aload_n dTape_startReading_5 rfl ?_
  refine ev_iconst (0) dTape_startReading_6 (by decide) ?_
  refine ev_putI hok fk_Tape_35 (woTape hw) (fun _ _ _ => rfl) rfl rfl dTape_startReading_7 ?_
  generalize eI3 : q_u I1 o 7 0 = I3
  have H := H I3 eI3
  refine ev_aload_n dTape_startReading_10 rfl ?_
  refine ev_iconst (-1) dTape_startReading_11 (by decide) ?_
  refine ev_putI hok fk_Tape_38 (woTape hw) (fun _ _ _ => rfl) rfl rfl dTape_startReading_12 ?_
  generalize eI4 : q_u I3 o 8 (-1) = I4
  have H := H I4 eI4
  refine ev_iconst (0) dTape_startReading_15 (by decide) ?_
  refine ev_istore_n dTape_startReading_16 (by decide) ?_
  refine ev_iconst (1) dTape_startReading_17 (by decide) ?_
  refine ev_istore_n dTape_startReading_18 (by decide) ?_
  refine ev_iconst (0) dTape_startReading_19 (by decide) ?_
  refine ev_istore dTape_startReading_20 (by decide) ?_
  exact ev_sub [(0, .ref o), (1, .int x1), (2, .int 0), (3, .int 1), (4, .int 0)] rfl H
def fLand_read_11 (D : va_G) (cA : FieldType → ClassId) (b : Nat) (E : State → Prop) (o : Nat) (n : Nat) (sh : Nat → qC) (Rf : Nat → Nat → Option Nat) (I : Nat → Nat → Int32) (L : Nat → Nat → Int64) (post : Option Value → qS → Prop) (x1 : Nat) (x2 : Int32) : Prop :=
  ((1600 ≤ x2 → Ev (qGG D cA b E) mLand_shortenWays 2 (0, 0) 0 (lv_args 0 [.ref o]) [] (n, sh, Rf, I, L) (fun v τ => ∃ (I4 : Nat → Nat → Int32) (L5 : Nat → Nat → Int64), v = none ∧ τ = (n, sh, Rf, I4, L5) ∧ post (some (.int 1)) (n, sh, Rf, I4, L5))) ∧ (¬ 1600 ≤ x2 → Ev (qGG D cA b E) mTape_atEnd 0 (0, 0) 0 (lv_args 0 [.ref x1]) [] (n, sh, Rf, I, L) (fun v τ => ∃ (r7 : Int32) (I8 : Nat → Nat → Int32) (L9 : Nat → Nat → Int64), v = some (.int r7) ∧ τ = (n, sh, Rf, I8, L9) ∧ ((¬ r7 = 0 → Ev (qGG D cA b E) mLand_shortenWays 2 (0, 0) 0 (lv_args 0 [.ref o]) [] (n, sh, Rf, I8, L9) (fun v τ => ∃ (I13 : Nat → Nat → Int32) (L14 : Nat → Nat → Int64), v = none ∧ τ = (n, sh, Rf, I13, L14) ∧ post (some (.int 1)) (n, sh, Rf, I13, L14))) ∧ (r7 = 0 → Ev (qGG D cA b E) mLand_readLine 4 (0, 0) 0 (lv_args 0 [.ref o, .ref x1]) [] (n, sh, Rf, I8, L9) (fun v τ => ∃ (r16 : Int32) (I17 : Nat → Nat → Int32) (L18 : Nat → Nat → Int64), v = some (.int r16) ∧ τ = (n, sh, Rf, I17, L18) ∧ ((¬ r16 = 0 → Ev (qGG D cA b E) mLand_read 10 (0, 0) 11 [(0, .ref o), (1, .ref x1), (2, .int ((x2 + Int32.ofInt 1)))] [] (n, sh, Rf, I17, L18) post) ∧ (r16 = 0 → post (some (.int 0)) (n, sh, Rf, I17, L18)))))))))
set_option maxHeartbeats 4000000 in
set_option maxRecDepth 20000 in
theorem sLand_read_11 {D : va_G} {cA : FieldType → ClassId} {b : Nat} {E : State → Prop} (o : Nat) (n : Nat) (sh : Nat → qC) (Rf : Nat → Nat → Option Nat) (I : Nat → Nat → Int32) (L : Nat → Nat → Int64) (post : Option Value → qS → Prop) (x1 : Nat) (x2 : Int32) (hok : q_ok (qGG D cA b E)) (hw : WfLand (qGG D cA b E) n sh Rf o) (hw1 : WfTape (qGG D cA b E) n sh Rf x1) (H : fLand_read_11 D cA b E o n sh Rf I L post x1 x2) : Ev (qGG D cA b E) mLand_read 10 (0, 0) 11 [(0, .ref o), (1, .ref x1), (2, .int x2)] [] (n, sh, Rf, I, L) post := by
  unfold fLand_read_11 at H
  refine ev_iload_n dLand_read_11 rfl ?_
  refine ev_sipush (1600) dLand_read_12 (by decide) ?_
  refine ev_icmp_ge 41 dLand_read_15 (by decide) (fun c1 => ?_) (fun c1 => ?_)
  · have H := H.1 c1
    refine ev_aload_n dLand_read_41 rfl ?_
    refine ev_callV [] [] (B' := (0, 0)) (B'' := (0, 0)) hok mmLand_shortenWays mk_Land_97 (ci := 1) rfl rfl (woLand hw) rfl (Nat.le_of_ble_eq_true rfl) rfl (Nat.le_of_ble_eq_true rfl) dLand_read_42 rfl (by decide) H (fun v τ p2 => ?_)
    obtain ⟨I4, L5, rfl, rfl, H⟩ := p2
    refine ev_iconst (1) dLand_read_45 (by decide) ?_
    exact ev_zret rfl (by decide) dLand_read_46 H
  · have H := H.2 c1
    refine ev_aload_n dLand_read_18 rfl ?_
    refine ev_callV [] [] (B' := (0, 0)) (B'' := (0, 0)) hok mmTape_atEnd mk_Land_89 (ci := 8) rfl rfl (woTape hw1) rfl (Nat.le_of_ble_eq_true rfl) rfl (Nat.le_of_ble_eq_true rfl) dLand_read_19 rfl (by decide) H (fun v τ p6 => ?_)
    obtain ⟨r7, I8, L9, rfl, rfl, H⟩ := p6
    refine ev_if_ne 41 dLand_read_22 (by decide) (fun c10 => ?_) (fun c10 => ?_)
    · have H := H.1 c10
      refine ev_aload_n dLand_read_41 rfl ?_
      refine ev_callV [] [] (B' := (0, 0)) (B'' := (0, 0)) hok mmLand_shortenWays mk_Land_97 (ci := 1) rfl rfl (woLand hw) rfl (Nat.le_of_ble_eq_true rfl) rfl (Nat.le_of_ble_eq_true rfl) dLand_read_42 rfl (by decide) H (fun v τ p11 => ?_)
      obtain ⟨I13, L14, rfl, rfl, H⟩ := p11
      refine ev_iconst (1) dLand_read_45 (by decide) ?_
      exact ev_zret rfl (by decide) dLand_read_46 H
    · have H := H.2 c10
      refine ev_aload_n dLand_read_25 rfl ?_
      refine ev_aload_n dLand_read_26 rfl ?_
      refine ev_callV [.ref x1] [] (B' := (0, 0)) (B'' := (0, 0)) hok mmLand_readLine mk_Land_93 (ci := 1) rfl rfl (woLand hw) rfl (Nat.le_of_ble_eq_true rfl) rfl (Nat.le_of_ble_eq_true rfl) dLand_read_27 rfl (by decide) H (fun v τ p15 => ?_)
      obtain ⟨r16, I17, L18, rfl, rfl, H⟩ := p15
      refine ev_if_ne 35 dLand_read_30 (by decide) (fun c19 => ?_) (fun c19 => ?_)
      · have H := H.1 c19
        refine ev_iinc dLand_read_35 rfl (by decide) ?_
        refine ev_goto 11 dLand_read_38 (by decide) ?_
        exact ev_sub [(0, .ref o), (1, .ref x1), (2, .int ((x2 + Int32.ofInt 1)))] rfl H
      · have H := H.2 c19
        refine ev_iconst (0) dLand_read_33 (by decide) ?_
        exact ev_zret rfl (by decide) dLand_read_34 H
def fLand_read_0 (D : va_G) (cA : FieldType → ClassId) (b : Nat) (E : State → Prop) (o : Nat) (n : Nat) (sh : Nat → qC) (Rf : Nat → Nat → Option Nat) (I : Nat → Nat → Int32) (L : Nat → Nat → Int64) (post : Option Value → qS → Prop) (x1 : Nat) : Prop :=
  Ev (qGG D cA b E) mLand_clear 1 (0, 0) 0 (lv_args 0 [.ref o]) [] (n, sh, Rf, I, L) (fun v τ => ∃ (I3 : Nat → Nat → Int32) (L4 : Nat → Nat → Int64), v = none ∧ τ = (n, sh, Rf, I3, L4) ∧ Ev (qGG D cA b E) mTape_startReading 9 (0, 0) 0 (lv_args 0 [.ref x1, .int 1]) [] (n, sh, Rf, I3, L4) (fun v τ => ∃ (I7 : Nat → Nat → Int32) (L8 : Nat → Nat → Int64), v = none ∧ τ = (n, sh, Rf, I7, L8) ∧ Ev (qGG D cA b E) mLand_read 10 (0, 0) 11 [(0, .ref o), (1, .ref x1), (2, .int 0)] [] (n, sh, Rf, I7, L8) post))
set_option maxHeartbeats 4000000 in
set_option maxRecDepth 20000 in
theorem sLand_read_0 {D : va_G} {cA : FieldType → ClassId} {b : Nat} {E : State → Prop} (o : Nat) (n : Nat) (sh : Nat → qC) (Rf : Nat → Nat → Option Nat) (I : Nat → Nat → Int32) (L : Nat → Nat → Int64) (post : Option Value → qS → Prop) (x1 : Nat) (hok : q_ok (qGG D cA b E)) (hw : WfLand (qGG D cA b E) n sh Rf o) (hw1 : WfTape (qGG D cA b E) n sh Rf x1) (H : fLand_read_0 D cA b E o n sh Rf I L post x1) : Ev (qGG D cA b E) mLand_read 10 (0, 0) 0 [(0, .ref o), (1, .ref x1)] [] (n, sh, Rf, I, L) post := by
  unfold fLand_read_0 at H
  refine ev_aload_n dLand_read_0 rfl ?_
  refine ev_callV [] [] (B' := (0, 0)) (B'' := (0, 0)) hok mmLand_clear mk_Land_74 (ci := 1) rfl rfl (woLand hw) rfl (Nat.le_of_ble_eq_true rfl) rfl (Nat.le_of_ble_eq_true rfl) dLand_read_1 rfl (by decide) H (fun v τ p1 => ?_)
  obtain ⟨I3, L4, rfl, rfl, H⟩ := p1
  refine ev_aload_n dLand_read_4 rfl ?_
  refine ev_iconst (1) dLand_read_5 (by decide) ?_
  refine ev_callV [.int 1] [] (B' := (0, 0)) (B'' := (0, 0)) hok mmTape_startReading mk_Land_83 (ci := 8) rfl rfl (woTape hw1) rfl (Nat.le_of_ble_eq_true rfl) rfl (Nat.le_of_ble_eq_true rfl) dLand_read_6 rfl (by decide) H (fun v τ p5 => ?_)
  obtain ⟨I7, L8, rfl, rfl, H⟩ := p5
  refine ev_iconst (0) dLand_read_9 (by decide) ?_
  refine ev_istore_n dLand_read_10 (by decide) ?_
  exact ev_sub [(0, .ref o), (1, .ref x1), (2, .int 0)] rfl H
