/-! Walks of the reference: by program. -/
def fModel_eat_153 (D : va_G) (cA : FieldType → ClassId) (b : Nat) (E : State → Prop) (o : Nat) (n : Nat) (sh : Nat → qC) (Rf : Nat → Nat → Option Nat) (I : Nat → Nat → Int32) (L : Nat → Nat → Int64) (post : Option Value → qS → Prop) (x1 : Int32) (x2 : Int32) (z0 : Int32) (z1 : Int32) (z2 : Int32) : Prop :=
  vp_in z2 5 ∧ ∀ I1 : Nat → Nat → Int32, q_u I (o + 45) (z2 : Int32).toNatClampNeg (z1 - z0) = I1 → Ev (qGG D cA b E) mModel_eat 1 (0, 0) 104 [(0, .ref o), (1, .int ((x1 + Int32.ofInt 1)))] [] (n, sh, Rf, I1, L) post
set_option maxHeartbeats 4000000 in
set_option maxRecDepth 20000 in
theorem sModel_eat_153 {D : va_G} {cA : FieldType → ClassId} {b : Nat} {E : State → Prop} (o : Nat) (n : Nat) (sh : Nat → qC) (Rf : Nat → Nat → Option Nat) (I : Nat → Nat → Int32) (L : Nat → Nat → Int64) (post : Option Value → qS → Prop) (x1 : Int32) (x2 : Int32) (z0 : Int32) (z1 : Int32) (z2 : Int32) (hok : q_ok (qGG D cA b E)) (hw : WfModel (qGG D cA b E) n sh Rf o) (H : fModel_eat_153 D cA b E o n sh Rf I L post x1 x2 z0 z1 z2) : Ev (qGG D cA b E) mModel_eat 1 (0, 0) 153 [(0, .ref o), (1, .int x1), (2, .int x2)] [.int z0, .int z1, .int z2, .ref ((o + 45))] (n, sh, Rf, I, L) post := by
  unfold fModel_eat_153 at H
  refine ev_isub dModel_eat_153 ?_
  obtain ⟨h2, H⟩ := H
  refine ev_iast hok (waModel_78 hw) h2 dModel_eat_154 ?_
  generalize eI1 : q_u I (o + 45) (z2 : Int32).toNatClampNeg (z1 - z0) = I1
  have H := H I1 eI1
  refine ev_iinc dModel_eat_155 rfl (by decide) ?_
  refine ev_goto 104 dModel_eat_158 (by decide) ?_
  exact ev_sub [(0, .ref o), (1, .int ((x1 + Int32.ofInt 1)))] rfl H
def fModel_eat_104 (D : va_G) (cA : FieldType → ClassId) (b : Nat) (E : State → Prop) (o : Nat) (n : Nat) (sh : Nat → qC) (Rf : Nat → Nat → Option Nat) (I : Nat → Nat → Int32) (L : Nat → Nat → Int64) (post : Option Value → qS → Prop) (x1 : Int32) : Prop :=
  Ev (qGG D cA b E) mModel_towns 0 (0, 0) 0 (lv_args 0 [.ref o]) [] (n, sh, Rf, I, L) (fun v τ => ∃ (r2 : Int32) (I3 : Nat → Nat → Int32) (L4 : Nat → Nat → Int64), v = some (.int r2) ∧ τ = (n, sh, Rf, I3, L4) ∧ ((r2 ≤ x1 → post none (n, sh, Rf, I3, L4)) ∧ (¬ r2 ≤ x1 → vp_in ((5 * (I3 o 34)) + x1) 10 ∧ vp_in x1 5 ∧ vp_in x1 5 ∧ (((I3 (o + 21) (((5 * (I3 o 34)) + x1) : Int32).toNatClampNeg) ≤ (I3 (o + 45) (x1 : Int32).toNatClampNeg) → fModel_eat_153 D cA b E o n sh Rf I3 L4 post x1 (I3 (o + 21) (((5 * (I3 o 34)) + x1) : Int32).toNatClampNeg) (I3 (o + 21) (((5 * (I3 o 34)) + x1) : Int32).toNatClampNeg) (I3 (o + 45) (x1 : Int32).toNatClampNeg) x1) ∧ (¬ (I3 (o + 21) (((5 * (I3 o 34)) + x1) : Int32).toNatClampNeg) ≤ (I3 (o + 45) (x1 : Int32).toNatClampNeg) → vp_in x1 5 ∧ fModel_eat_153 D cA b E o n sh Rf I3 L4 post x1 (I3 (o + 21) (((5 * (I3 o 34)) + x1) : Int32).toNatClampNeg) (I3 (o + 45) (x1 : Int32).toNatClampNeg) (I3 (o + 45) (x1 : Int32).toNatClampNeg) x1)))))
set_option maxHeartbeats 4000000 in
set_option maxRecDepth 20000 in
theorem sModel_eat_104 {D : va_G} {cA : FieldType → ClassId} {b : Nat} {E : State → Prop} (o : Nat) (n : Nat) (sh : Nat → qC) (Rf : Nat → Nat → Option Nat) (I : Nat → Nat → Int32) (L : Nat → Nat → Int64) (post : Option Value → qS → Prop) (x1 : Int32) (hok : q_ok (qGG D cA b E)) (hw : WfModel (qGG D cA b E) n sh Rf o) (H : fModel_eat_104 D cA b E o n sh Rf I L post x1) : Ev (qGG D cA b E) mModel_eat 1 (0, 0) 104 [(0, .ref o), (1, .int x1)] [] (n, sh, Rf, I, L) post := by
  unfold fModel_eat_104 at H
  refine ev_iload_n dModel_eat_104 rfl ?_
  refine ev_aload_n dModel_eat_105 rfl ?_
  refine ev_callV [] [.int x1] (B' := (0, 0)) (B'' := (0, 0)) hok mmModel_towns mk_Model_488 (ci := 12) rfl rfl (woModel hw) rfl (Nat.le_of_ble_eq_true rfl) rfl (Nat.le_of_ble_eq_true rfl) dModel_eat_106 rfl (by decide) H (fun v τ p1 => ?_)
  obtain ⟨r2, I3, L4, rfl, rfl, H⟩ := p1
  refine ev_icmp_ge 161 dModel_eat_109 (by decide) (fun c5 => ?_) (fun c5 => ?_)
  · have H := H.1 c5
    exact ev_vret rfl dModel_eat_161 H
  · have H := H.2 c5
    refine ev_aload_n dModel_eat_112 rfl ?_
    refine ev_getR hok fk_Model_257 (woModel hw) (fun _ _ _ => rfl) (wrModel_30 hw) dModel_eat_113 ?_
    refine ev_iconst (5) dModel_eat_116 (by decide) ?_
    refine ev_aload_n dModel_eat_117 rfl ?_
    refine ev_getI hok fk_Model_147 (woModel hw) (fun _ _ _ => rfl) dModel_eat_118 ?_
    refine ev_imul dModel_eat_121 ?_
    refine ev_iload_n dModel_eat_122 rfl ?_
    refine ev_iadd dModel_eat_123 ?_
    obtain ⟨h6, H⟩ := H
    refine ev_iald hok (waModel_30 hw) h6 dModel_eat_124 ?_
    refine ev_istore_n dModel_eat_125 (by decide) ?_
    refine ev_aload_n dModel_eat_126 rfl ?_
    refine ev_getR hok fk_Model_474 (woModel hw) (fun _ _ _ => rfl) (wrModel_78 hw) dModel_eat_127 ?_
    refine ev_iload_n dModel_eat_130 rfl ?_
    refine ev_dup2_11 dModel_eat_131 rfl rfl ?_
    obtain ⟨h7, H⟩ := H
    refine ev_iald hok (waModel_78 hw) h7 dModel_eat_132 ?_
    refine ev_aload_n dModel_eat_133 rfl ?_
    refine ev_getR hok fk_Model_474 (woModel hw) (fun _ _ _ => rfl) (wrModel_78 hw) dModel_eat_134 ?_
    refine ev_iload_n dModel_eat_137 rfl ?_
    obtain ⟨h8, H⟩ := H
    refine ev_iald hok (waModel_78 hw) h8 dModel_eat_138 ?_
    refine ev_iload_n dModel_eat_139 rfl ?_
    refine ev_icmp_ge 152 dModel_eat_140 (by decide) (fun c9 => ?_) (fun c9 => ?_)
    · have H := H.1 c9
      refine ev_iload_n dModel_eat_152 rfl ?_
      exact ev_sub [(0, .ref o), (1, .int x1), (2, .int ((I3 (o + 21) (((5 * (I3 o 34)) + x1) : Int32).toNatClampNeg)))] rfl (sModel_eat_153 o n sh Rf I3 L4 post x1 (I3 (o + 21) (((5 * (I3 o 34)) + x1) : Int32).toNatClampNeg) (I3 (o + 21) (((5 * (I3 o 34)) + x1) : Int32).toNatClampNeg) (I3 (o + 45) (x1 : Int32).toNatClampNeg) x1 hok hw H)
    · have H := H.2 c9
      refine ev_aload_n dModel_eat_143 rfl ?_
      refine ev_getR hok fk_Model_474 (woModel hw) (fun _ _ _ => rfl) (wrModel_78 hw) dModel_eat_144 ?_
      refine ev_iload_n dModel_eat_147 rfl ?_
      obtain ⟨h10, H⟩ := H
      refine ev_iald hok (waModel_78 hw) h10 dModel_eat_148 ?_
      refine ev_goto 153 dModel_eat_149 (by decide) ?_
      exact ev_sub [(0, .ref o), (1, .int x1), (2, .int ((I3 (o + 21) (((5 * (I3 o 34)) + x1) : Int32).toNatClampNeg)))] rfl (sModel_eat_153 o n sh Rf I3 L4 post x1 (I3 (o + 21) (((5 * (I3 o 34)) + x1) : Int32).toNatClampNeg) (I3 (o + 45) (x1 : Int32).toNatClampNeg) (I3 (o + 45) (x1 : Int32).toNatClampNeg) x1 hok hw H)
def fModel_eat_79 (D : va_G) (cA : FieldType → ClassId) (b : Nat) (E : State → Prop) (o : Nat) (n : Nat) (sh : Nat → qC) (Rf : Nat → Nat → Option Nat) (I : Nat → Nat → Int32) (L : Nat → Nat → Int64) (post : Option Value → qS → Prop) (x1 : Int32) (x2 : Int32) (z0 : Int32) (z1 : Int32) : Prop :=
  vp_in z1 3 ∧ ∀ I1 : Nat → Nat → Int32, q_u I (o + 42) (z1 : Int32).toNatClampNeg z0 = I1 → vp_in x1 3 ∧ ∀ L4 : Nat → Nat → Int64, q_u L o 112 ((L o 112) + ((I1 (o + 43) (x1 : Int32).toNatClampNeg) : Int32).toInt64) = L4 → Ev (qGG D cA b E) mModel_eat 1 (0, 0) 2 [(0, .ref o), (1, .int ((x1 + Int32.ofInt 1)))] [] (n, sh, Rf, I1, L4) post
set_option maxHeartbeats 4000000 in
set_option maxRecDepth 20000 in
theorem sModel_eat_79 {D : va_G} {cA : FieldType → ClassId} {b : Nat} {E : State → Prop} (o : Nat) (n : Nat) (sh : Nat → qC) (Rf : Nat → Nat → Option Nat) (I : Nat → Nat → Int32) (L : Nat → Nat → Int64) (post : Option Value → qS → Prop) (x1 : Int32) (x2 : Int32) (z0 : Int32) (z1 : Int32) (hok : q_ok (qGG D cA b E)) (hw : WfModel (qGG D cA b E) n sh Rf o) (H : fModel_eat_79 D cA b E o n sh Rf I L post x1 x2 z0 z1) : Ev (qGG D cA b E) mModel_eat 1 (0, 0) 79 [(0, .ref o), (1, .int x1), (2, .int x2)] [.int z0, .int z1, .ref ((o + 42))] (n, sh, Rf, I, L) post := by
  unfold fModel_eat_79 at H
  obtain ⟨h2, H⟩ := H
  refine ev_iast hok (waModel_75 hw) h2 dModel_eat_79 ?_
  generalize eI1 : q_u I (o + 42) (z1 : Int32).toNatClampNeg z0 = I1
  have H := H I1 eI1
  refine ev_aload_n dModel_eat_80 rfl ?_
  refine ev_dup dModel_eat_81 rfl ?_
  refine ev_getL hok fk_Model_630 (woModel hw) (fun _ _ _ => rfl) dModel_eat_82 ?_
  refine ev_aload_n dModel_eat_85 rfl ?_
  refine ev_getR hok fk_Model_627 (woModel hw) (fun _ _ _ => rfl) (wrModel_76 hw) dModel_eat_86 ?_
  refine ev_iload_n dModel_eat_89 rfl ?_
  obtain ⟨h3, H⟩ := H
  refine ev_iald hok (waModel_76 hw) h3 dModel_eat_90 ?_
  refine ev_i2l dModel_eat_91 ?_
  refine ev_ladd dModel_eat_92 ?_
  refine ev_putL hok fk_Model_630 (woModel hw) (fun _ _ _ => rfl) rfl rfl dModel_eat_93 ?_
  generalize eL4 : q_u L o 112 ((L o 112) + ((I1 (o + 43) (x1 : Int32).toNatClampNeg) : Int32).toInt64) = L4
  have H := H L4 eL4
  refine ev_iinc dModel_eat_96 rfl (by decide) ?_
  refine ev_goto 2 dModel_eat_99 (by decide) ?_
  exact ev_sub [(0, .ref o), (1, .int ((x1 + Int32.ofInt 1)))] rfl H
def fModel_eat_51 (D : va_G) (cA : FieldType → ClassId) (b : Nat) (E : State → Prop) (o : Nat) (n : Nat) (sh : Nat → qC) (Rf : Nat → Nat → Option Nat) (I : Nat → Nat → Int32) (L : Nat → Nat → Int64) (post : Option Value → qS → Prop) (x1 : Int32) (x2 : Int32) (z0 : Int32) (z1 : Int32) : Prop :=
  vp_in z1 3 ∧ ∀ I1 : Nat → Nat → Int32, q_u I (o + 43) (z1 : Int32).toNatClampNeg z0 = I1 → vp_in x1 3 ∧ ((x2 ≤ (I1 (o + 42) (x1 : Int32).toNatClampNeg) → vp_in x1 3 ∧ fModel_eat_79 D cA b E o n sh Rf I1 L post x1 x2 ((I1 (o + 42) (x1 : Int32).toNatClampNeg) - x2) x1) ∧ (¬ x2 ≤ (I1 (o + 42) (x1 : Int32).toNatClampNeg) → fModel_eat_79 D cA b E o n sh Rf I1 L post x1 x2 0 x1))
set_option maxHeartbeats 4000000 in
set_option maxRecDepth 20000 in
theorem sModel_eat_51 {D : va_G} {cA : FieldType → ClassId} {b : Nat} {E : State → Prop} (o : Nat) (n : Nat) (sh : Nat → qC) (Rf : Nat → Nat → Option Nat) (I : Nat → Nat → Int32) (L : Nat → Nat → Int64) (post : Option Value → qS → Prop) (x1 : Int32) (x2 : Int32) (z0 : Int32) (z1 : Int32) (hok : q_ok (qGG D cA b E)) (hw : WfModel (qGG D cA b E) n sh Rf o) (H : fModel_eat_51 D cA b E o n sh Rf I L post x1 x2 z0 z1) : Ev (qGG D cA b E) mModel_eat 1 (0, 0) 51 [(0, .ref o), (1, .int x1), (2, .int x2)] [.int z0, .int z1, .ref ((o + 43))] (n, sh, Rf, I, L) post := by
  unfold fModel_eat_51 at H
  obtain ⟨h2, H⟩ := H
  refine ev_iast hok (waModel_76 hw) h2 dModel_eat_51 ?_
  generalize eI1 : q_u I (o + 43) (z1 : Int32).toNatClampNeg z0 = I1
  have H := H I1 eI1
  refine ev_aload_n dModel_eat_52 rfl ?_
  refine ev_getR hok fk_Model_513 (woModel hw) (fun _ _ _ => rfl) (wrModel_75 hw) dModel_eat_53 ?_
  refine ev_iload_n dModel_eat_56 rfl ?_
  refine ev_iload_n dModel_eat_57 rfl ?_
  refine ev_aload_n dModel_eat_58 rfl ?_
  refine ev_getR hok fk_Model_513 (woModel hw) (fun _ _ _ => rfl) (wrModel_75 hw) dModel_eat_59 ?_
  refine ev_iload_n dModel_eat_62 rfl ?_
  obtain ⟨h3, H⟩ := H
  refine ev_iald hok (waModel_75 hw) h3 dModel_eat_63 ?_
  refine ev_icmp_le 71 dModel_eat_64 (by decide) (fun c4 => ?_) (fun c4 => ?_)
  · have H := H.1 c4
    refine ev_aload_n dModel_eat_71 rfl ?_
    refine ev_getR hok fk_Model_513 (woModel hw) (fun _ _ _ => rfl) (wrModel_75 hw) dModel_eat_72 ?_
    refine ev_iload_n dModel_eat_75 rfl ?_
    obtain ⟨h5, H⟩ := H
    refine ev_iald hok (waModel_75 hw) h5 dModel_eat_76 ?_
    refine ev_iload_n dModel_eat_77 rfl ?_
    refine ev_isub dModel_eat_78 ?_
    exact ev_sub [(0, .ref o), (1, .int x1), (2, .int x2)] rfl (sModel_eat_79 o n sh Rf I1 L post x1 x2 ((I1 (o + 42) (x1 : Int32).toNatClampNeg) - x2) x1 hok hw H)
  · have H := H.2 c4
    refine ev_iconst (0) dModel_eat_67 (by decide) ?_
    refine ev_goto 79 dModel_eat_68 (by decide) ?_
    exact ev_sub [(0, .ref o), (1, .int x1), (2, .int x2)] rfl (sModel_eat_79 o n sh Rf I1 L post x1 x2 0 x1 hok hw H)
def fModel_eat_2 (D : va_G) (cA : FieldType → ClassId) (b : Nat) (E : State → Prop) (o : Nat) (n : Nat) (sh : Nat → qC) (Rf : Nat → Nat → Option Nat) (I : Nat → Nat → Int32) (L : Nat → Nat → Int64) (post : Option Value → qS → Prop) (x1 : Int32) : Prop :=
  Ev (qGG D cA b E) mModel_forts 0 (0, 0) 0 (lv_args 0 [.ref o]) [] (n, sh, Rf, I, L) (fun v τ => ∃ (r2 : Int32) (I3 : Nat → Nat → Int32) (L4 : Nat → Nat → Int64), v = some (.int r2) ∧ τ = (n, sh, Rf, I3, L4) ∧ ((r2 ≤ x1 → Ev (qGG D cA b E) mModel_eat 1 (0, 0) 104 [(0, .ref o), (1, .int 0)] [] (n, sh, Rf, I3, L4) post) ∧ (¬ r2 ≤ x1 → vp_in ((3 * (I3 o 34)) + x1) 6 ∧ vp_in x1 3 ∧ (((I3 (o + 14) (((3 * (I3 o 34)) + x1) : Int32).toNatClampNeg) ≤ (I3 (o + 42) (x1 : Int32).toNatClampNeg) → fModel_eat_51 D cA b E o n sh Rf I3 L4 post x1 (I3 (o + 14) (((3 * (I3 o 34)) + x1) : Int32).toNatClampNeg) 0 x1) ∧ (¬ (I3 (o + 14) (((3 * (I3 o 34)) + x1) : Int32).toNatClampNeg) ≤ (I3 (o + 42) (x1 : Int32).toNatClampNeg) → vp_in x1 3 ∧ fModel_eat_51 D cA b E o n sh Rf I3 L4 post x1 (I3 (o + 14) (((3 * (I3 o 34)) + x1) : Int32).toNatClampNeg) ((I3 (o + 14) (((3 * (I3 o 34)) + x1) : Int32).toNatClampNeg) - (I3 (o + 42) (x1 : Int32).toNatClampNeg)) x1)))))
set_option maxHeartbeats 4000000 in
set_option maxRecDepth 20000 in
theorem sModel_eat_2 {D : va_G} {cA : FieldType → ClassId} {b : Nat} {E : State → Prop} (o : Nat) (n : Nat) (sh : Nat → qC) (Rf : Nat → Nat → Option Nat) (I : Nat → Nat → Int32) (L : Nat → Nat → Int64) (post : Option Value → qS → Prop) (x1 : Int32) (hok : q_ok (qGG D cA b E)) (hw : WfModel (qGG D cA b E) n sh Rf o) (H : fModel_eat_2 D cA b E o n sh Rf I L post x1) : Ev (qGG D cA b E) mModel_eat 1 (0, 0) 2 [(0, .ref o), (1, .int x1)] [] (n, sh, Rf, I, L) post := by
  unfold fModel_eat_2 at H
  refine ev_iload_n dModel_eat_2 rfl ?_
  refine ev_aload_n dModel_eat_3 rfl ?_
  refine ev_callV [] [.int x1] (B' := (0, 0)) (B'' := (0, 0)) hok mmModel_forts mk_Model_624 (ci := 12) rfl rfl (woModel hw) rfl (Nat.le_of_ble_eq_true rfl) rfl (Nat.le_of_ble_eq_true rfl) dModel_eat_4 rfl (by decide) H (fun v τ p1 => ?_)
  obtain ⟨r2, I3, L4, rfl, rfl, H⟩ := p1
  refine ev_icmp_ge 102 dModel_eat_7 (by decide) (fun c5 => ?_) (fun c5 => ?_)
  · have H := H.1 c5
    refine ev_iconst (0) dModel_eat_102 (by decide) ?_
    refine ev_istore_n dModel_eat_103 (by decide) ?_
    exact ev_sub [(0, .ref o), (1, .int 0)] rfl H
  · have H := H.2 c5
    refine ev_aload_n dModel_eat_10 rfl ?_
    refine ev_getR hok fk_Model_236 (woModel hw) (fun _ _ _ => rfl) (wrModel_23 hw) dModel_eat_11 ?_
    refine ev_iconst (3) dModel_eat_14 (by decide) ?_
    refine ev_aload_n dModel_eat_15 rfl ?_
    refine ev_getI hok fk_Model_147 (woModel hw) (fun _ _ _ => rfl) dModel_eat_16 ?_
    refine ev_imul dModel_eat_19 ?_
    refine ev_iload_n dModel_eat_20 rfl ?_
    refine ev_iadd dModel_eat_21 ?_
    obtain ⟨h6, H⟩ := H
    refine ev_iald hok (waModel_23 hw) h6 dModel_eat_22 ?_
    refine ev_istore_n dModel_eat_23 (by decide) ?_
    refine ev_aload_n dModel_eat_24 rfl ?_
    refine ev_getR hok fk_Model_627 (woModel hw) (fun _ _ _ => rfl) (wrModel_76 hw) dModel_eat_25 ?_
    refine ev_iload_n dModel_eat_28 rfl ?_
    refine ev_iload_n dModel_eat_29 rfl ?_
    refine ev_aload_n dModel_eat_30 rfl ?_
    refine ev_getR hok fk_Model_513 (woModel hw) (fun _ _ _ => rfl) (wrModel_75 hw) dModel_eat_31 ?_
    refine ev_iload_n dModel_eat_34 rfl ?_
    obtain ⟨h7, H⟩ := H
    refine ev_iald hok (waModel_75 hw) h7 dModel_eat_35 ?_
    refine ev_icmp_le 50 dModel_eat_36 (by decide) (fun c8 => ?_) (fun c8 => ?_)
    · have H := H.1 c8
      refine ev_iconst (0) dModel_eat_50 (by decide) ?_
      exact ev_sub [(0, .ref o), (1, .int x1), (2, .int ((I3 (o + 14) (((3 * (I3 o 34)) + x1) : Int32).toNatClampNeg)))] rfl (sModel_eat_51 o n sh Rf I3 L4 post x1 (I3 (o + 14) (((3 * (I3 o 34)) + x1) : Int32).toNatClampNeg) 0 x1 hok hw H)
    · have H := H.2 c8
      refine ev_iload_n dModel_eat_39 rfl ?_
      refine ev_aload_n dModel_eat_40 rfl ?_
      refine ev_getR hok fk_Model_513 (woModel hw) (fun _ _ _ => rfl) (wrModel_75 hw) dModel_eat_41 ?_
      refine ev_iload_n dModel_eat_44 rfl ?_
      obtain ⟨h9, H⟩ := H
      refine ev_iald hok (waModel_75 hw) h9 dModel_eat_45 ?_
      refine ev_isub dModel_eat_46 ?_
      refine ev_goto 51 dModel_eat_47 (by decide) ?_
      exact ev_sub [(0, .ref o), (1, .int x1), (2, .int ((I3 (o + 14) (((3 * (I3 o 34)) + x1) : Int32).toNatClampNeg)))] rfl (sModel_eat_51 o n sh Rf I3 L4 post x1 (I3 (o + 14) (((3 * (I3 o 34)) + x1) : Int32).toNatClampNeg) ((I3 (o + 14) (((3 * (I3 o 34)) + x1) : Int32).toNatClampNeg) - (I3 (o + 42) (x1 : Int32).toNatClampNeg)) x1 hok hw H)
def fModel_eat_0 (D : va_G) (cA : FieldType → ClassId) (b : Nat) (E : State → Prop) (o : Nat) (n : Nat) (sh : Nat → qC) (Rf : Nat → Nat → Option Nat) (I : Nat → Nat → Int32) (L : Nat → Nat → Int64) (post : Option Value → qS → Prop)  : Prop :=
  Ev (qGG D cA b E) mModel_eat 1 (0, 0) 2 [(0, .ref o), (1, .int 0)] [] (n, sh, Rf, I, L) post
set_option maxHeartbeats 4000000 in
set_option maxRecDepth 20000 in
theorem sModel_eat_0 {D : va_G} {cA : FieldType → ClassId} {b : Nat} {E : State → Prop} (o : Nat) (n : Nat) (sh : Nat → qC) (Rf : Nat → Nat → Option Nat) (I : Nat → Nat → Int32) (L : Nat → Nat → Int64) (post : Option Value → qS → Prop)  (hok : q_ok (qGG D cA b E)) (hw : WfModel (qGG D cA b E) n sh Rf o) (H : fModel_eat_0 D cA b E o n sh Rf I L post ) : Ev (qGG D cA b E) mModel_eat 1 (0, 0) 0 [(0, .ref o)] [] (n, sh, Rf, I, L) post := by
  unfold fModel_eat_0 at H
  refine ev_iconst (0) dModel_eat_0 (by decide) ?_
  refine ev_istore_n dModel_eat_1 (by decide) ?_
  exact ev_sub [(0, .ref o), (1, .int 0)] rfl H
def fModel_fillTowns_2 (D : va_G) (cA : FieldType → ClassId) (b : Nat) (E : State → Prop) (o : Nat) (n : Nat) (sh : Nat → qC) (Rf : Nat → Nat → Option Nat) (I : Nat → Nat → Int32) (L : Nat → Nat → Int64) (post : Option Value → qS → Prop) (x1 : Int32) : Prop :=
  Ev (qGG D cA b E) mModel_towns 0 (0, 0) 0 (lv_args 0 [.ref o]) [] (n, sh, Rf, I, L) (fun v τ => ∃ (r2 : Int32) (I3 : Nat → Nat → Int32) (L4 : Nat → Nat → Int64), v = some (.int r2) ∧ τ = (n, sh, Rf, I3, L4) ∧ ((r2 ≤ x1 → ∀ I6 : Nat → Nat → Int32, q_u I3 o 111 (I3 o 108) = I6 → post none (n, sh, Rf, I6, L4)) ∧ (¬ r2 ≤ x1 → vp_in ((5 * (I3 o 34)) + x1) 10 ∧ vp_in x1 5 ∧ ∀ I8 : Nat → Nat → Int32, q_u I3 (o + 46) (x1 : Int32).toNatClampNeg (I3 (o + 23) (((5 * (I3 o 34)) + x1) : Int32).toNatClampNeg) = I8 → Ev (qGG D cA b E) mModel_fillTowns 1 (0, 0) 2 [(0, .ref o), (1, .int ((x1 + Int32.ofInt 1)))] [] (n, sh, Rf, I8, L4) post)))
set_option maxHeartbeats 4000000 in
set_option maxRecDepth 20000 in
theorem sModel_fillTowns_2 {D : va_G} {cA : FieldType → ClassId} {b : Nat} {E : State → Prop} (o : Nat) (n : Nat) (sh : Nat → qC) (Rf : Nat → Nat → Option Nat) (I : Nat → Nat → Int32) (L : Nat → Nat → Int64) (post : Option Value → qS → Prop) (x1 : Int32) (hok : q_ok (qGG D cA b E)) (hw : WfModel (qGG D cA b E) n sh Rf o) (H : fModel_fillTowns_2 D cA b E o n sh Rf I L post x1) : Ev (qGG D cA b E) mModel_fillTowns 1 (0, 0) 2 [(0, .ref o), (1, .int x1)] [] (n, sh, Rf, I, L) post := by
  unfold fModel_fillTowns_2 at H
  refine ev_iload_n dModel_fillTowns_2 rfl ?_
  refine ev_aload_n dModel_fillTowns_3 rfl ?_
  refine ev_callV [] [.int x1] (B' := (0, 0)) (B'' := (0, 0)) hok mmModel_towns mk_Model_488 (ci := 12) rfl rfl (woModel hw) rfl (Nat.le_of_ble_eq_true rfl) rfl (Nat.le_of_ble_eq_true rfl) dModel_fillTowns_4 rfl (by decide) H (fun v τ p1 => ?_)
  obtain ⟨r2, I3, L4, rfl, rfl, H⟩ := p1
  refine ev_icmp_ge 35 dModel_fillTowns_7 (by decide) (fun c5 => ?_) (fun c5 => ?_)
  · have H := H.1 c5
    refine ev_aload_n dModel_fillTowns_35 rfl ?_
    refine ev_aload_n dModel_fillTowns_36 rfl ?_
    refine ev_getI hok fk_Model_591 (woModel hw) (fun _ _ _ => rfl) dModel_fillTowns_37 ?_
    refine ev_putI hok fk_Model_680 (woModel hw) (fun _ _ _ => rfl) rfl rfl dModel_fillTowns_40 ?_
    generalize eI6 : q_u I3 o 111 (I3 o 108) = I6
    have H := H I6 eI6
    exact ev_vret rfl dModel_fillTowns_43 H
  · have H := H.2 c5
    refine ev_aload_n dModel_fillTowns_10 rfl ?_
    refine ev_getR hok fk_Model_664 (woModel hw) (fun _ _ _ => rfl) (wrModel_79 hw) dModel_fillTowns_11 ?_
    refine ev_iload_n dModel_fillTowns_14 rfl ?_
    refine ev_aload_n dModel_fillTowns_15 rfl ?_
    refine ev_getR hok fk_Model_263 (woModel hw) (fun _ _ _ => rfl) (wrModel_32 hw) dModel_fillTowns_16 ?_
    refine ev_iconst (5) dModel_fillTowns_19 (by decide) ?_
    refine ev_aload_n dModel_fillTowns_20 rfl ?_
    refine ev_getI hok fk_Model_147 (woModel hw) (fun _ _ _ => rfl) dModel_fillTowns_21 ?_
    refine ev_imul dModel_fillTowns_24 ?_
    refine ev_iload_n dModel_fillTowns_25 rfl ?_
    refine ev_iadd dModel_fillTowns_26 ?_
    obtain ⟨h7, H⟩ := H
    refine ev_iald hok (waModel_32 hw) h7 dModel_fillTowns_27 ?_
    obtain ⟨h9, H⟩ := H
    refine ev_iast hok (waModel_79 hw) h9 dModel_fillTowns_28 ?_
    generalize eI8 : q_u I3 (o + 46) (x1 : Int32).toNatClampNeg (I3 (o + 23) (((5 * (I3 o 34)) + x1) : Int32).toNatClampNeg) = I8
    have H := H I8 eI8
    refine ev_iinc dModel_fillTowns_29 rfl (by decide) ?_
    refine ev_goto 2 dModel_fillTowns_32 (by decide) ?_
    exact ev_sub [(0, .ref o), (1, .int ((x1 + Int32.ofInt 1)))] rfl H
def fModel_fillTowns_0 (D : va_G) (cA : FieldType → ClassId) (b : Nat) (E : State → Prop) (o : Nat) (n : Nat) (sh : Nat → qC) (Rf : Nat → Nat → Option Nat) (I : Nat → Nat → Int32) (L : Nat → Nat → Int64) (post : Option Value → qS → Prop)  : Prop :=
  Ev (qGG D cA b E) mModel_fillTowns 1 (0, 0) 2 [(0, .ref o), (1, .int 0)] [] (n, sh, Rf, I, L) post
set_option maxHeartbeats 4000000 in
set_option maxRecDepth 20000 in
theorem sModel_fillTowns_0 {D : va_G} {cA : FieldType → ClassId} {b : Nat} {E : State → Prop} (o : Nat) (n : Nat) (sh : Nat → qC) (Rf : Nat → Nat → Option Nat) (I : Nat → Nat → Int32) (L : Nat → Nat → Int64) (post : Option Value → qS → Prop)  (hok : q_ok (qGG D cA b E)) (hw : WfModel (qGG D cA b E) n sh Rf o) (H : fModel_fillTowns_0 D cA b E o n sh Rf I L post ) : Ev (qGG D cA b E) mModel_fillTowns 1 (0, 0) 0 [(0, .ref o)] [] (n, sh, Rf, I, L) post := by
  unfold fModel_fillTowns_0 at H
  refine ev_iconst (0) dModel_fillTowns_0 (by decide) ?_
  refine ev_istore_n dModel_fillTowns_1 (by decide) ?_
  exact ev_sub [(0, .ref o), (1, .int 0)] rfl H
def fModel_forge_58 (D : va_G) (cA : FieldType → ClassId) (b : Nat) (E : State → Prop) (o : Nat) (n : Nat) (sh : Nat → qC) (Rf : Nat → Nat → Option Nat) (I : Nat → Nat → Int32) (L : Nat → Nat → Int64) (post : Option Value → qS → Prop) (x1 : Int32) (x2 : Int32) : Prop :=
  Ev (qGG D cA b E) mModel_forge 1 (0, 0) 2 [(0, .ref o), (1, .int x1), (2, .int ((x2 + Int32.ofInt 1)))] [] (n, sh, Rf, I, L) post
set_option maxHeartbeats 4000000 in
set_option maxRecDepth 20000 in
theorem sModel_forge_58 {D : va_G} {cA : FieldType → ClassId} {b : Nat} {E : State → Prop} (o : Nat) (n : Nat) (sh : Nat → qC) (Rf : Nat → Nat → Option Nat) (I : Nat → Nat → Int32) (L : Nat → Nat → Int64) (post : Option Value → qS → Prop) (x1 : Int32) (x2 : Int32) (hok : q_ok (qGG D cA b E)) (hw : WfModel (qGG D cA b E) n sh Rf o) (H : fModel_forge_58 D cA b E o n sh Rf I L post x1 x2) : Ev (qGG D cA b E) mModel_forge 1 (0, 0) 58 [(0, .ref o), (1, .int x1), (2, .int x2)] [] (n, sh, Rf, I, L) post := by
  unfold fModel_forge_58 at H
  refine ev_iinc dModel_forge_58 rfl (by decide) ?_
  refine ev_goto 2 dModel_forge_61 (by decide) ?_
  exact ev_sub [(0, .ref o), (1, .int x1), (2, .int ((x2 + Int32.ofInt 1)))] rfl H
def fModel_forge_2 (D : va_G) (cA : FieldType → ClassId) (b : Nat) (E : State → Prop) (o : Nat) (n : Nat) (sh : Nat → qC) (Rf : Nat → Nat → Option Nat) (I : Nat → Nat → Int32) (L : Nat → Nat → Int64) (post : Option Value → qS → Prop) (x1 : Int32) (x2 : Int32) : Prop :=
  (((I o 67) ≤ x2 → post none (n, sh, Rf, I, L)) ∧ (¬ (I o 67) ≤ x2 → Ev (qGG D cA b E) mModel_counts 0 (0, 0) 0 (lv_args 0 [.ref o, .int x2, .int 1]) [] (n, sh, Rf, I, L) (fun v τ => ∃ (r3 : Int32) (I4 : Nat → Nat → Int32) (L5 : Nat → Nat → Int64), v = some (.int r3) ∧ τ = (n, sh, Rf, I4, L5) ∧ ((r3 = 0 → fModel_forge_58 D cA b E o n sh Rf I4 L5 post x1 x2) ∧ (¬ r3 = 0 → vp_in x2 40 ∧ ((¬ (I4 (o + 37) (x2 : Int32).toNatClampNeg) = x1 → fModel_forge_58 D cA b E o n sh Rf I4 L5 post x1 x2) ∧ ((I4 (o + 37) (x2 : Int32).toNatClampNeg) = x1 → vp_in x2 40 ∧ (((I4 o 57) < (I4 (o + 38) (x2 : Int32).toNatClampNeg) → fModel_forge_58 D cA b E o n sh Rf I4 L5 post x1 x2) ∧ (¬ (I4 o 57) < (I4 (o + 38) (x2 : Int32).toNatClampNeg) → vp_in x1 2000 ∧ ((0 ≤ (I4 (o + 56) (x1 : Int32).toNatClampNeg) → fModel_forge_58 D cA b E o n sh Rf I4 L5 post x1 x2) ∧ (¬ 0 ≤ (I4 (o + 56) (x1 : Int32).toNatClampNeg) → vp_in x1 2000 ∧ ∀ I13 : Nat → Nat → Int32, q_u I4 (o + 66) (x1 : Int32).toNatClampNeg (vp_nar .boolean 1) = I13 → fModel_forge_58 D cA b E o n sh Rf I13 L5 post x1 x2)))))))))))
set_option maxHeartbeats 4000000 in
set_option maxRecDepth 20000 in
theorem sModel_forge_2 {D : va_G} {cA : FieldType → ClassId} {b : Nat} {E : State → Prop} (o : Nat) (n : Nat) (sh : Nat → qC) (Rf : Nat → Nat → Option Nat) (I : Nat → Nat → Int32) (L : Nat → Nat → Int64) (post : Option Value → qS → Prop) (x1 : Int32) (x2 : Int32) (hok : q_ok (qGG D cA b E)) (hw : WfModel (qGG D cA b E) n sh Rf o) (H : fModel_forge_2 D cA b E o n sh Rf I L post x1 x2) : Ev (qGG D cA b E) mModel_forge 1 (0, 0) 2 [(0, .ref o), (1, .int x1), (2, .int x2)] [] (n, sh, Rf, I, L) post := by
  unfold fModel_forge_2 at H
  refine ev_iload_n dModel_forge_2 rfl ?_
  refine ev_aload_n dModel_forge_3 rfl ?_
  refine ev_getI hok fk_Model_169 (woModel hw) (fun _ _ _ => rfl) dModel_forge_4 ?_
  refine ev_icmp_ge 64 dModel_forge_7 (by decide) (fun c1 => ?_) (fun c1 => ?_)
  · have H := H.1 c1
    exact ev_vret rfl dModel_forge_64 H
  · have H := H.2 c1
    refine ev_aload_n dModel_forge_10 rfl ?_
    refine ev_iload_n dModel_forge_11 rfl ?_
    refine ev_iconst (1) dModel_forge_12 (by decide) ?_
    refine ev_callV [.int x2, .int 1] [] (B' := (0, 0)) (B'' := (0, 0)) hok mmModel_counts mk_Model_541 (ci := 12) rfl rfl (woModel hw) rfl (Nat.le_of_ble_eq_true rfl) rfl (Nat.le_of_ble_eq_true rfl) dModel_forge_13 rfl (by decide) H (fun v τ p2 => ?_)
    obtain ⟨r3, I4, L5, rfl, rfl, H⟩ := p2
    refine ev_if_eq 58 dModel_forge_16 (by decide) (fun c6 => ?_) (fun c6 => ?_)
    · have H := H.1 c6
      exact ev_sub [(0, .ref o), (1, .int x1), (2, .int x2)] rfl (sModel_forge_58 o n sh Rf I4 L5 post x1 x2 hok hw H)
    · have H := H.2 c6
      refine ev_aload_n dModel_forge_19 rfl ?_
      refine ev_getR hok fk_Model_415 (woModel hw) (fun _ _ _ => rfl) (wrModel_61 hw) dModel_forge_20 ?_
      refine ev_iload_n dModel_forge_23 rfl ?_
      obtain ⟨h7, H⟩ := H
      refine ev_iald hok (waModel_61 hw) h7 dModel_forge_24 ?_
      refine ev_iload_n dModel_forge_25 rfl ?_
      refine ev_icmp_ne 58 dModel_forge_26 (by decide) (fun c8 => ?_) (fun c8 => ?_)
      · have H := H.1 c8
        exact ev_sub [(0, .ref o), (1, .int x1), (2, .int x2)] rfl (sModel_forge_58 o n sh Rf I4 L5 post x1 x2 hok hw H)
      · have H := H.2 c8
        refine ev_aload_n dModel_forge_29 rfl ?_
        refine ev_getR hok fk_Model_418 (woModel hw) (fun _ _ _ => rfl) (wrModel_62 hw) dModel_forge_30 ?_
        refine ev_iload_n dModel_forge_33 rfl ?_
        obtain ⟨h9, H⟩ := H
        refine ev_iald hok (waModel_62 hw) h9 dModel_forge_34 ?_
        refine ev_aload_n dModel_forge_35 rfl ?_
        refine ev_getI hok fk_Model_348 (woModel hw) (fun _ _ _ => rfl) dModel_forge_36 ?_
        refine ev_icmp_gt 58 dModel_forge_39 (by decide) (fun c10 => ?_) (fun c10 => ?_)
        · have H := H.1 c10
          exact ev_sub [(0, .ref o), (1, .int x1), (2, .int x2)] rfl (sModel_forge_58 o n sh Rf I4 L5 post x1 x2 hok hw H)
        · have H := H.2 c10
          refine ev_aload_n dModel_forge_42 rfl ?_
          refine ev_getR hok fk_Model_447 (woModel hw) (fun _ _ _ => rfl) (wrModel_89 hw) dModel_forge_43 ?_
          refine ev_iload_n dModel_forge_46 rfl ?_
          obtain ⟨h11, H⟩ := H
          refine ev_iald hok (waModel_89 hw) h11 dModel_forge_47 ?_
          refine ev_if_ge 58 dModel_forge_48 (by decide) (fun c12 => ?_) (fun c12 => ?_)
          · have H := H.1 c12
            exact ev_sub [(0, .ref o), (1, .int x1), (2, .int x2)] rfl (sModel_forge_58 o n sh Rf I4 L5 post x1 x2 hok hw H)
          · have H := H.2 c12
            refine ev_aload_n dModel_forge_51 rfl ?_
            refine ev_getR hok fk_Model_450 (woModel hw) (fun _ _ _ => rfl) (wrModel_99 hw) dModel_forge_52 ?_
            refine ev_iload_n dModel_forge_55 rfl ?_
            refine ev_iconst (1) dModel_forge_56 (by decide) ?_
            obtain ⟨h14, H⟩ := H
            refine ev_zast hok (waModel_99 hw) h14 dModel_forge_57 ?_
            generalize eI13 : q_u I4 (o + 66) (x1 : Int32).toNatClampNeg (vp_nar .boolean 1) = I13
            have H := H I13 eI13
            exact ev_sub [(0, .ref o), (1, .int x1), (2, .int x2)] rfl (sModel_forge_58 o n sh Rf I13 L5 post x1 x2 hok hw H)
def fModel_forge_0 (D : va_G) (cA : FieldType → ClassId) (b : Nat) (E : State → Prop) (o : Nat) (n : Nat) (sh : Nat → qC) (Rf : Nat → Nat → Option Nat) (I : Nat → Nat → Int32) (L : Nat → Nat → Int64) (post : Option Value → qS → Prop) (x1 : Int32) : Prop :=
  Ev (qGG D cA b E) mModel_forge 1 (0, 0) 2 [(0, .ref o), (1, .int x1), (2, .int 0)] [] (n, sh, Rf, I, L) post
set_option maxHeartbeats 4000000 in
set_option maxRecDepth 20000 in
theorem sModel_forge_0 {D : va_G} {cA : FieldType → ClassId} {b : Nat} {E : State → Prop} (o : Nat) (n : Nat) (sh : Nat → qC) (Rf : Nat → Nat → Option Nat) (I : Nat → Nat → Int32) (L : Nat → Nat → Int64) (post : Option Value → qS → Prop) (x1 : Int32) (hok : q_ok (qGG D cA b E)) (hw : WfModel (qGG D cA b E) n sh Rf o) (H : fModel_forge_0 D cA b E o n sh Rf I L post x1) : Ev (qGG D cA b E) mModel_forge 1 (0, 0) 0 [(0, .ref o), (1, .int x1)] [] (n, sh, Rf, I, L) post := by
  unfold fModel_forge_0 at H
  refine ev_iconst (0) dModel_forge_0 (by decide) ?_
  refine ev_istore_n dModel_forge_1 (by decide) ?_
  exact ev_sub [(0, .ref o), (1, .int x1), (2, .int 0)] rfl H
def fModel_fort_31 (D : va_G) (cA : FieldType → ClassId) (b : Nat) (E : State → Prop) (o : Nat) (n : Nat) (sh : Nat → qC) (Rf : Nat → Nat → Option Nat) (I : Nat → Nat → Int32) (L : Nat → Nat → Int64) (post : Option Value → qS → Prop) (x1 : Int32) (x2 : Int32) (x3 : Int32) : Prop :=
  post (some (.int ((-1)))) (n, sh, Rf, I, L)
set_option maxHeartbeats 4000000 in
set_option maxRecDepth 20000 in
theorem sModel_fort_31 {D : va_G} {cA : FieldType → ClassId} {b : Nat} {E : State → Prop} (o : Nat) (n : Nat) (sh : Nat → qC) (Rf : Nat → Nat → Option Nat) (I : Nat → Nat → Int32) (L : Nat → Nat → Int64) (post : Option Value → qS → Prop) (x1 : Int32) (x2 : Int32) (x3 : Int32) (hok : q_ok (qGG D cA b E)) (hw : WfModel (qGG D cA b E) n sh Rf o) (H : fModel_fort_31 D cA b E o n sh Rf I L post x1 x2 x3) : Ev (qGG D cA b E) mModel_fort 1 (0, 0) 31 [(0, .ref o), (1, .int x1), (2, .int x2), (3, .int x3)] [] (n, sh, Rf, I, L) post := by
  unfold fModel_fort_31 at H
  refine ev_iconst (-1) dModel_fort_31 (by decide) ?_
  refine ev_goto 50 dModel_fort_32 (by decide) ?_
  exact ev_iret rfl dModel_fort_50 H
def fModel_fort_0 (D : va_G) (cA : FieldType → ClassId) (b : Nat) (E : State → Prop) (o : Nat) (n : Nat) (sh : Nat → qC) (Rf : Nat → Nat → Option Nat) (I : Nat → Nat → Int32) (L : Nat → Nat → Int64) (post : Option Value → qS → Prop) (x1 : Int32) (x2 : Int32) (x3 : Int32) : Prop :=
  Ev (qGG D cA b E) mModel_forts 0 (0, 0) 0 (lv_args 0 [.ref o]) [] (n, sh, Rf, I, L) (fun v τ => ∃ (r2 : Int32) (I3 : Nat → Nat → Int32) (L4 : Nat → Nat → Int64), v = some (.int r2) ∧ τ = (n, sh, Rf, I3, L4) ∧ Ev (qGG D cA b E) mModel_isIn 0 (0, 0) 0 (lv_args 0 [.int x1, .int 0, .int ((r2 - 1))]) [] (n, sh, Rf, I3, L4) (fun v τ => ∃ (r6 : Int32) (I7 : Nat → Nat → Int32) (L8 : Nat → Nat → Int64), v = some (.int r6) ∧ τ = (n, sh, Rf, I7, L8) ∧ ((r6 = 0 → fModel_fort_31 D cA b E o n sh Rf I7 L8 post x1 x2 x3) ∧ (¬ r6 = 0 → Ev (qGG D cA b E) mModel_isRanMonth 0 (0, 0) 0 (lv_args 0 [.ref o, .int x2]) [] (n, sh, Rf, I7, L8) (fun v τ => ∃ (r11 : Int32) (I12 : Nat → Nat → Int32) (L13 : Nat → Nat → Int64), v = some (.int r11) ∧ τ = (n, sh, Rf, I12, L13) ∧ ((r11 = 0 → fModel_fort_31 D cA b E o n sh Rf I12 L13 post x1 x2 x3) ∧ (¬ r11 = 0 → Ev (qGG D cA b E) mModel_isIn 0 (0, 0) 0 (lv_args 0 [.int x3, .int 0, .int 1]) [] (n, sh, Rf, I12, L13) (fun v τ => ∃ (r16 : Int32) (I17 : Nat → Nat → Int32) (L18 : Nat → Nat → Int64), v = some (.int r16) ∧ τ = (n, sh, Rf, I17, L18) ∧ ((¬ r16 = 0 → vp_in (((6 * x2) + (2 * x1)) + x3) 1440 ∧ post (some (.int ((I17 (o + 71) ((((6 * x2) + (2 * x1)) + x3) : Int32).toNatClampNeg)))) (n, sh, Rf, I17, L18)) ∧ (r16 = 0 → fModel_fort_31 D cA b E o n sh Rf I17 L18 post x1 x2 x3))))))))))
set_option maxHeartbeats 4000000 in
set_option maxRecDepth 20000 in
theorem sModel_fort_0 {D : va_G} {cA : FieldType → ClassId} {b : Nat} {E : State → Prop} (o : Nat) (n : Nat) (sh : Nat → qC) (Rf : Nat → Nat → Option Nat) (I : Nat → Nat → Int32) (L : Nat → Nat → Int64) (post : Option Value → qS → Prop) (x1 : Int32) (x2 : Int32) (x3 : Int32) (hok : q_ok (qGG D cA b E)) (hw : WfModel (qGG D cA b E) n sh Rf o) (H : fModel_fort_0 D cA b E o n sh Rf I L post x1 x2 x3) : Ev (qGG D cA b E) mModel_fort 1 (0, 0) 0 [(0, .ref o), (1, .int x1), (2, .int x2), (3, .int x3)] [] (n, sh, Rf, I, L) post := by
  unfold fModel_fort_0 at H
  refine ev_iload_n dModel_fort_0 rfl ?_
  refine ev_iconst (0) dModel_fort_1 (by decide) ?_
  refine ev_aload_n dModel_fort_2 rfl ?_
  refine ev_callV [] [.int 0, .int x1] (B' := (0, 0)) (B'' := (0, 0)) hok mmModel_forts mk_Model_624 (ci := 12) rfl rfl (woModel hw) rfl (Nat.le_of_ble_eq_true rfl) rfl (Nat.le_of_ble_eq_true rfl) dModel_fort_3 rfl (by decide) H (fun v τ p1 => ?_)
  obtain ⟨r2, I3, L4, rfl, rfl, H⟩ := p1
  refine ev_iconst (1) dModel_fort_6 (by decide) ?_
  refine ev_isub dModel_fort_7 ?_
  refine ev_callS [.int x1, .int 0, .int ((r2 - 1))] [] (B' := (0, 0)) (B'' := (0, 0)) hok mmModel_isIn mk_Model_393 rfl (Nat.le_of_ble_eq_true rfl) rfl (Nat.le_of_ble_eq_true rfl) dModel_fort_8 rfl (by decide) H (fun v τ p5 => ?_)
  obtain ⟨r6, I7, L8, rfl, rfl, H⟩ := p5
  refine ev_if_eq 31 dModel_fort_11 (by decide) (fun c9 => ?_) (fun c9 => ?_)
  · have H := H.1 c9
    exact ev_sub [(0, .ref o), (1, .int x1), (2, .int x2), (3, .int x3)] rfl (sModel_fort_31 o n sh Rf I7 L8 post x1 x2 x3 hok hw H)
  · have H := H.2 c9
    refine ev_aload_n dModel_fort_14 rfl ?_
    refine ev_iload_n dModel_fort_15 rfl ?_
    refine ev_callV [.int x2] [] (B' := (0, 0)) (B'' := (0, 0)) hok mmModel_isRanMonth mk_Model_780 (ci := 12) rfl rfl (woModel hw) rfl (Nat.le_of_ble_eq_true rfl) rfl (Nat.le_of_ble_eq_true rfl) dModel_fort_16 rfl (by decide) H (fun v τ p10 => ?_)
    obtain ⟨r11, I12, L13, rfl, rfl, H⟩ := p10
    refine ev_if_eq 31 dModel_fort_19 (by decide) (fun c14 => ?_) (fun c14 => ?_)
    · have H := H.1 c14
      exact ev_sub [(0, .ref o), (1, .int x1), (2, .int x2), (3, .int x3)] rfl (sModel_fort_31 o n sh Rf I12 L13 post x1 x2 x3 hok hw H)
    · have H := H.2 c14
      refine ev_iload_n dModel_fort_22 rfl ?_
      refine ev_iconst (0) dModel_fort_23 (by decide) ?_
      refine ev_iconst (1) dModel_fort_24 (by decide) ?_
      refine ev_callS [.int x3, .int 0, .int 1] [] (B' := (0, 0)) (B'' := (0, 0)) hok mmModel_isIn mk_Model_393 rfl (Nat.le_of_ble_eq_true rfl) rfl (Nat.le_of_ble_eq_true rfl) dModel_fort_25 rfl (by decide) H (fun v τ p15 => ?_)
      obtain ⟨r16, I17, L18, rfl, rfl, H⟩ := p15
      refine ev_if_ne 35 dModel_fort_28 (by decide) (fun c19 => ?_) (fun c19 => ?_)
      · have H := H.1 c19
        refine ev_aload_n dModel_fort_35 rfl ?_
        refine ev_getR hok fk_Model_745 (woModel hw) (fun _ _ _ => rfl) (wrModel_129 hw) dModel_fort_36 ?_
        refine ev_bipush (6) dModel_fort_39 (by decide) ?_
        refine ev_iload_n dModel_fort_41 rfl ?_
        refine ev_imul dModel_fort_42 ?_
        refine ev_iconst (2) dModel_fort_43 (by decide) ?_
        refine ev_iload_n dModel_fort_44 rfl ?_
        refine ev_imul dModel_fort_45 ?_
        refine ev_iadd dModel_fort_46 ?_
        refine ev_iload_n dModel_fort_47 rfl ?_
        refine ev_iadd dModel_fort_48 ?_
        obtain ⟨h20, H⟩ := H
        refine ev_iald hok (waModel_129 hw) h20 dModel_fort_49 ?_
        exact ev_iret rfl dModel_fort_50 H
      · have H := H.2 c19
        exact ev_sub [(0, .ref o), (1, .int x1), (2, .int x2), (3, .int x3)] rfl (sModel_fort_31 o n sh Rf I17 L18 post x1 x2 x3 hok hw H)
def fModel_is_0 (D : va_G) (cA : FieldType → ClassId) (b : Nat) (E : State → Prop) (o : Nat) (n : Nat) (sh : Nat → qC) (Rf : Nat → Nat → Option Nat) (I : Nat → Nat → Int32) (L : Nat → Nat → Int64) (post : Option Value → qS → Prop) (x1 : Int32) : Prop :=
  ((¬ (I o 8) = 6 → post (some (.int 0)) (n, sh, Rf, I, L)) ∧ ((I o 8) = 6 → Ev (qGG D cA b E) mModel_sign 0 (0, 0) 0 (lv_args 0 [.ref o, .int ((I o 6))]) [] (n, sh, Rf, I, L) (fun v τ => ∃ (r3 : Int32) (I4 : Nat → Nat → Int32) (L5 : Nat → Nat → Int64), v = some (.int r3) ∧ τ = (n, sh, Rf, I4, L5) ∧ ((¬ r3 = x1 → post (some (.int 0)) (n, sh, Rf, I4, L5)) ∧ (r3 = x1 → post (some (.int 1)) (n, sh, Rf, I4, L5))))))
set_option maxHeartbeats 4000000 in
set_option maxRecDepth 20000 in
theorem sModel_is_0 {D : va_G} {cA : FieldType → ClassId} {b : Nat} {E : State → Prop} (o : Nat) (n : Nat) (sh : Nat → qC) (Rf : Nat → Nat → Option Nat) (I : Nat → Nat → Int32) (L : Nat → Nat → Int64) (post : Option Value → qS → Prop) (x1 : Int32) (hok : q_ok (qGG D cA b E)) (hw : WfModel (qGG D cA b E) n sh Rf o) (H : fModel_is_0 D cA b E o n sh Rf I L post x1) : Ev (qGG D cA b E) mModel_is 1 (0, 0) 0 [(0, .ref o), (1, .int x1)] [] (n, sh, Rf, I, L) post := by
  unfold fModel_is_0 at H
  refine ev_aload_n dModel_is_0 rfl ?_
  refine ev_getI hok fk_Model_98 (woModel hw) (fun _ _ _ => rfl) dModel_is_1 ?_
  refine ev_bipush (6) dModel_is_4 (by decide) ?_
  refine ev_icmp_ne 25 dModel_is_6 (by decide) (fun c1 => ?_) (fun c1 => ?_)
  · have H := H.1 c1
    refine ev_iconst (0) dModel_is_25 (by decide) ?_
    exact ev_zret rfl (by decide) dModel_is_26 H
  · have H := H.2 c1
    refine ev_aload_n dModel_is_9 rfl ?_
    refine ev_aload_n dModel_is_10 rfl ?_
    refine ev_getI hok fk_Model_95 (woModel hw) (fun _ _ _ => rfl) dModel_is_11 ?_
    refine ev_callV [.int ((I o 6))] [] (B' := (0, 0)) (B'' := (0, 0)) hok mmModel_sign mk_Model_81 (ci := 12) rfl rfl (woModel hw) rfl (Nat.le_of_ble_eq_true rfl) rfl (Nat.le_of_ble_eq_true rfl) dModel_is_14 rfl (by decide) H (fun v τ p2 => ?_)
    obtain ⟨r3, I4, L5, rfl, rfl, H⟩ := p2
    refine ev_iload_n dModel_is_17 rfl ?_
    refine ev_icmp_ne 25 dModel_is_18 (by decide) (fun c6 => ?_) (fun c6 => ?_)
    · have H := H.1 c6
      refine ev_iconst (0) dModel_is_25 (by decide) ?_
      exact ev_zret rfl (by decide) dModel_is_26 H
    · have H := H.2 c6
      refine ev_iconst (1) dModel_is_21 (by decide) ?_
      refine ev_goto 26 dModel_is_22 (by decide) ?_
      exact ev_zret rfl (by decide) dModel_is_26 H
def fModel_isMonth_0 (D : va_G) (cA : FieldType → ClassId) (b : Nat) (E : State → Prop) (n : Nat) (sh : Nat → qC) (Rf : Nat → Nat → Option Nat) (I : Nat → Nat → Int32) (L : Nat → Nat → Int64) (post : Option Value → qS → Prop) (x0 : Int32) : Prop :=
  Ev (qGG D cA b E) mModel_isIn 0 (0, 0) 0 (lv_args 0 [.int x0, .int 0, .int 239]) [] (n, sh, Rf, I, L) (fun v τ => ∃ (r2 : Int32) (I3 : Nat → Nat → Int32) (L4 : Nat → Nat → Int64), v = some (.int r2) ∧ τ = (n, sh, Rf, I3, L4) ∧ ((r2 = 0 ∨ r2 = 1) ∧ post (some (.int r2)) (n, sh, Rf, I3, L4)))
set_option maxHeartbeats 4000000 in
set_option maxRecDepth 20000 in
theorem sModel_isMonth_0 {D : va_G} {cA : FieldType → ClassId} {b : Nat} {E : State → Prop} (n : Nat) (sh : Nat → qC) (Rf : Nat → Nat → Option Nat) (I : Nat → Nat → Int32) (L : Nat → Nat → Int64) (post : Option Value → qS → Prop) (x0 : Int32) (hok : q_ok (qGG D cA b E)) (H : fModel_isMonth_0 D cA b E n sh Rf I L post x0) : Ev (qGG D cA b E) mModel_isMonth 1 (0, 0) 0 [(0, .int x0)] [] (n, sh, Rf, I, L) post := by
  unfold fModel_isMonth_0 at H
  refine ev_iload_n dModel_isMonth_0 rfl ?_
  refine ev_iconst (0) dModel_isMonth_1 (by decide) ?_
  refine ev_sipush (239) dModel_isMonth_2 (by decide) ?_
  refine ev_callS [.int x0, .int 0, .int 239] [] (B' := (0, 0)) (B'' := (0, 0)) hok mmModel_isIn mk_Model_393 rfl (Nat.le_of_ble_eq_true rfl) rfl (Nat.le_of_ble_eq_true rfl) dModel_isMonth_5 rfl (by decide) H (fun v τ p1 => ?_)
  obtain ⟨r2, I3, L4, rfl, rfl, H⟩ := p1
  exact ev_zret rfl (q_bz H.1) dModel_isMonth_8 H.2
def fModel_keep_0 (D : va_G) (cA : FieldType → ClassId) (b : Nat) (E : State → Prop) (o : Nat) (n : Nat) (sh : Nat → qC) (Rf : Nat → Nat → Option Nat) (I : Nat → Nat → Int32) (L : Nat → Nat → Int64) (post : Option Value → qS → Prop)  : Prop :=
  ∀ I1 : Nat → Nat → Int32, q_u I o 163 (I o 104) = I1 → Ev (qGG D cA b E) mModel_copy 0 (0, 0) 0 (lv_args 0 [.ref ((o + 51)), .ref ((o + 81)), .int ((I1 o 104))]) [] (n, sh, Rf, I1, L) (fun v τ => ∃ (I4 : Nat → Nat → Int32) (L5 : Nat → Nat → Int64), v = none ∧ τ = (n, sh, Rf, I4, L5) ∧ Ev (qGG D cA b E) mModel_copy 0 (0, 0) 0 (lv_args 0 [.ref ((o + 52)), .ref ((o + 82)), .int ((I4 o 104))]) [] (n, sh, Rf, I4, L5) (fun v τ => ∃ (I8 : Nat → Nat → Int32) (L9 : Nat → Nat → Int64), v = none ∧ τ = (n, sh, Rf, I8, L9) ∧ Ev (qGG D cA b E) mModel_copy 0 (0, 0) 0 (lv_args 0 [.ref ((o + 53)), .ref ((o + 83)), .int ((I8 o 104))]) [] (n, sh, Rf, I8, L9) (fun v τ => ∃ (I12 : Nat → Nat → Int32) (L13 : Nat → Nat → Int64), v = none ∧ τ = (n, sh, Rf, I12, L13) ∧ Ev (qGG D cA b E) mModel_copy 0 (0, 0) 0 (lv_args 0 [.ref ((o + 54)), .ref ((o + 84)), .int ((I12 o 104))]) [] (n, sh, Rf, I12, L13) (fun v τ => ∃ (I16 : Nat → Nat → Int32) (L17 : Nat → Nat → Int64), v = none ∧ τ = (n, sh, Rf, I16, L17) ∧ Ev (qGG D cA b E) mModel_copy 0 (0, 0) 0 (lv_args 0 [.ref ((o + 55)), .ref ((o + 85)), .int ((I16 o 104))]) [] (n, sh, Rf, I16, L17) (fun v τ => ∃ (I20 : Nat → Nat → Int32) (L21 : Nat → Nat → Int64), v = none ∧ τ = (n, sh, Rf, I20, L21) ∧ Ev (qGG D cA b E) mModel_copy 0 (0, 0) 0 (lv_args 0 [.ref ((o + 56)), .ref ((o + 86)), .int ((I20 o 104))]) [] (n, sh, Rf, I20, L21) (fun v τ => ∃ (I24 : Nat → Nat → Int32) (L25 : Nat → Nat → Int64), v = none ∧ τ = (n, sh, Rf, I24, L25) ∧ Ev (qGG D cA b E) mModel_copyTruths 0 (0, 0) 0 (lv_args 0 [.ref ((o + 65)), .ref ((o + 96)), .int ((I24 o 104))]) [] (n, sh, Rf, I24, L25) (fun v τ => ∃ (I28 : Nat → Nat → Int32) (L29 : Nat → Nat → Int64), v = none ∧ τ = (n, sh, Rf, I28, L29) ∧ Ev (qGG D cA b E) mModel_copyTruths 0 (0, 0) 0 (lv_args 0 [.ref ((o + 66)), .ref ((o + 97)), .int ((I28 o 104))]) [] (n, sh, Rf, I28, L29) (fun v τ => ∃ (I32 : Nat → Nat → Int32) (L33 : Nat → Nat → Int64), v = none ∧ τ = (n, sh, Rf, I32, L33) ∧ Ev (qGG D cA b E) mModel_copy 0 (0, 0) 0 (lv_args 0 [.ref ((o + 42)), .ref ((o + 87)), .int 3]) [] (n, sh, Rf, I32, L33) (fun v τ => ∃ (I36 : Nat → Nat → Int32) (L37 : Nat → Nat → Int64), v = none ∧ τ = (n, sh, Rf, I36, L37) ∧ Ev (qGG D cA b E) mModel_copy 0 (0, 0) 0 (lv_args 0 [.ref ((o + 44)), .ref ((o + 88)), .int 3]) [] (n, sh, Rf, I36, L37) (fun v τ => ∃ (I40 : Nat → Nat → Int32) (L41 : Nat → Nat → Int64), v = none ∧ τ = (n, sh, Rf, I40, L41) ∧ Ev (qGG D cA b E) mModel_copy 0 (0, 0) 0 (lv_args 0 [.ref ((o + 45)), .ref ((o + 89)), .int 5]) [] (n, sh, Rf, I40, L41) (fun v τ => ∃ (I44 : Nat → Nat → Int32) (L45 : Nat → Nat → Int64), v = none ∧ τ = (n, sh, Rf, I44, L45) ∧ Ev (qGG D cA b E) mModel_copy 0 (0, 0) 0 (lv_args 0 [.ref ((o + 48)), .ref ((o + 90)), .int 18]) [] (n, sh, Rf, I44, L45) (fun v τ => ∃ (I48 : Nat → Nat → Int32) (L49 : Nat → Nat → Int64), v = none ∧ τ = (n, sh, Rf, I48, L49) ∧ Ev (qGG D cA b E) mModel_copy 0 (0, 0) 0 (lv_args 0 [.ref ((o + 49)), .ref ((o + 91)), .int 6]) [] (n, sh, Rf, I48, L49) (fun v τ => ∃ (I52 : Nat → Nat → Int32) (L53 : Nat → Nat → Int64), v = none ∧ τ = (n, sh, Rf, I52, L53) ∧ Ev (qGG D cA b E) mModel_copyLongs 0 (0, 0) 0 (lv_args 0 [.ref ((o + 68)), .ref ((o + 98)), .int 6]) [] (n, sh, Rf, I52, L53) (fun v τ => ∃ (I56 : Nat → Nat → Int32) (L57 : Nat → Nat → Int64), v = none ∧ τ = (n, sh, Rf, I56, L57) ∧ Ev (qGG D cA b E) mModel_copy 0 (0, 0) 0 (lv_args 0 [.ref ((o + 71)), .ref ((o + 92)), .int 1440]) [] (n, sh, Rf, I56, L57) (fun v τ => ∃ (I60 : Nat → Nat → Int32) (L61 : Nat → Nat → Int64), v = none ∧ τ = (n, sh, Rf, I60, L61) ∧ Ev (qGG D cA b E) mModel_copy 0 (0, 0) 0 (lv_args 0 [.ref ((o + 72)), .ref ((o + 93)), .int 1440]) [] (n, sh, Rf, I60, L61) (fun v τ => ∃ (I64 : Nat → Nat → Int32) (L65 : Nat → Nat → Int64), v = none ∧ τ = (n, sh, Rf, I64, L65) ∧ Ev (qGG D cA b E) mModel_copy 0 (0, 0) 0 (lv_args 0 [.ref ((o + 73)), .ref ((o + 94)), .int 3600]) [] (n, sh, Rf, I64, L65) (fun v τ => ∃ (I68 : Nat → Nat → Int32) (L69 : Nat → Nat → Int64), v = none ∧ τ = (n, sh, Rf, I68, L69) ∧ Ev (qGG D cA b E) mModel_copy 0 (0, 0) 0 (lv_args 0 [.ref ((o + 74)), .ref ((o + 95)), .int 1440]) [] (n, sh, Rf, I68, L69) (fun v τ => ∃ (I72 : Nat → Nat → Int32) (L73 : Nat → Nat → Int64), v = none ∧ τ = (n, sh, Rf, I72, L73) ∧ Ev (qGG D cA b E) mModel_copyLongs 0 (0, 0) 0 (lv_args 0 [.ref ((o + 75)), .ref ((o + 99)), .int 1440]) [] (n, sh, Rf, I72, L73) (fun v τ => ∃ (I76 : Nat → Nat → Int32) (L77 : Nat → Nat → Int64), v = none ∧ τ = (n, sh, Rf, I76, L77) ∧ Ev (qGG D cA b E) mModel_copyLongs 0 (0, 0) 0 (lv_args 0 [.ref ((o + 76)), .ref ((o + 100)), .int 1440]) [] (n, sh, Rf, I76, L77) (fun v τ => ∃ (I80 : Nat → Nat → Int32) (L81 : Nat → Nat → Int64), v = none ∧ τ = (n, sh, Rf, I80, L81) ∧ ∀ L82 : Nat → Nat → Int64, q_u L81 (o + 101) 0 (L81 o 112) = L82 → ∀ L83 : Nat → Nat → Int64, q_u L82 (o + 101) 1 (L82 o 113) = L83 → ∀ L84 : Nat → Nat → Int64, q_u L83 (o + 101) 2 (L83 o 114) = L84 → ∀ L85 : Nat → Nat → Int64, q_u L84 (o + 101) 3 (L84 o 115) = L85 → ∀ L86 : Nat → Nat → Int64, q_u L85 (o + 101) 4 (L85 o 116) = L86 → ∀ L87 : Nat → Nat → Int64, q_u L86 (o + 101) 5 (L86 o 117) = L87 → ∀ L88 : Nat → Nat → Int64, q_u L87 (o + 101) 6 (L87 o 118) = L88 → ∀ L89 : Nat → Nat → Int64, q_u L88 (o + 101) 7 (L88 o 119) = L89 → post none (n, sh, Rf, I80, L89)))))))))))))))))))))
set_option maxHeartbeats 4000000 in
set_option maxRecDepth 20000 in
theorem sModel_keep_0 {D : va_G} {cA : FieldType → ClassId} {b : Nat} {E : State → Prop} (o : Nat) (n : Nat) (sh : Nat → qC) (Rf : Nat → Nat → Option Nat) (I : Nat → Nat → Int32) (L : Nat → Nat → Int64) (post : Option Value → qS → Prop)  (hok : q_ok (qGG D cA b E)) (hw : WfModel (qGG D cA b E) n sh Rf o) (H : fModel_keep_0 D cA b E o n sh Rf I L post ) : Ev (qGG D cA b E) mModel_keep 1 (0, 0) 0 [(0, .ref o)] [] (n, sh, Rf, I, L) post := by
  unfold fModel_keep_0 at H
  refine ev_aload_n dModel_keep_0 rfl ?_
  refine ev_aload_n dModel_keep_1 rfl ?_
  refine ev_getI hok fk_Model_454 (woModel hw) (fun _ _ _ => rfl) dModel_keep_2 ?_
  refine ev_putI hok fk_Model_805 (woModel hw) (fun _ _ _ => rfl) rfl rfl dModel_keep_5 ?_
  generalize eI1 : q_u I o 163 (I o 104) = I1
  have H := H I1 eI1
  refine ev_aload_n dModel_keep_8 rfl ?_
  refine ev_getR hok fk_Model_525 (woModel hw) (fun _ _ _ => rfl) (wrModel_84 hw) dModel_keep_9 ?_
  refine ev_aload_n dModel_keep_12 rfl ?_
  refine ev_getR hok fk_Model_808 (woModel hw) (fun _ _ _ => rfl) (wrModel_142 hw) dModel_keep_13 ?_
  refine ev_aload_n dModel_keep_16 rfl ?_
  refine ev_getI hok fk_Model_454 (woModel hw) (fun _ _ _ => rfl) dModel_keep_17 ?_
  refine ev_callS [.ref ((o + 51)), .ref ((o + 81)), .int ((I1 o 104))] [] (B' := (0, 0)) (B'' := (0, 0)) hok mmModel_copy mk_Model_811 rfl (Nat.le_of_ble_eq_true rfl) rfl (Nat.le_of_ble_eq_true rfl) dModel_keep_20 rfl (by decide) H (fun v τ p2 => ?_)
  obtain ⟨I4, L5, rfl, rfl, H⟩ := p2
  refine ev_aload_n dModel_keep_23 rfl ?_
  refine ev_getR hok fk_Model_457 (woModel hw) (fun _ _ _ => rfl) (wrModel_85 hw) dModel_keep_24 ?_
  refine ev_aload_n dModel_keep_27 rfl ?_
  refine ev_getR hok fk_Model_815 (woModel hw) (fun _ _ _ => rfl) (wrModel_143 hw) dModel_keep_28 ?_
  refine ev_aload_n dModel_keep_31 rfl ?_
  refine ev_getI hok fk_Model_454 (woModel hw) (fun _ _ _ => rfl) dModel_keep_32 ?_
  refine ev_callS [.ref ((o + 52)), .ref ((o + 82)), .int ((I4 o 104))] [] (B' := (0, 0)) (B'' := (0, 0)) hok mmModel_copy mk_Model_811 rfl (Nat.le_of_ble_eq_true rfl) rfl (Nat.le_of_ble_eq_true rfl) dModel_keep_35 rfl (by decide) H (fun v τ p6 => ?_)
  obtain ⟨I8, L9, rfl, rfl, H⟩ := p6
  refine ev_aload_n dModel_keep_38 rfl ?_
  refine ev_getR hok fk_Model_463 (woModel hw) (fun _ _ _ => rfl) (wrModel_86 hw) dModel_keep_39 ?_
  refine ev_aload_n dModel_keep_42 rfl ?_
  refine ev_getR hok fk_Model_818 (woModel hw) (fun _ _ _ => rfl) (wrModel_144 hw) dModel_keep_43 ?_
  refine ev_aload_n dModel_keep_46 rfl ?_
  refine ev_getI hok fk_Model_454 (woModel hw) (fun _ _ _ => rfl) dModel_keep_47 ?_
  refine ev_callS [.ref ((o + 53)), .ref ((o + 83)), .int ((I8 o 104))] [] (B' := (0, 0)) (B'' := (0, 0)) hok mmModel_copy mk_Model_811 rfl (Nat.le_of_ble_eq_true rfl) rfl (Nat.le_of_ble_eq_true rfl) dModel_keep_50 rfl (by decide) H (fun v τ p10 => ?_)
  obtain ⟨I12, L13, rfl, rfl, H⟩ := p10
  refine ev_aload_n dModel_keep_53 rfl ?_
  refine ev_getR hok fk_Model_528 (woModel hw) (fun _ _ _ => rfl) (wrModel_87 hw) dModel_keep_54 ?_
  refine ev_aload_n dModel_keep_57 rfl ?_
  refine ev_getR hok fk_Model_821 (woModel hw) (fun _ _ _ => rfl) (wrModel_145 hw) dModel_keep_58 ?_
  refine ev_aload_n dModel_keep_61 rfl ?_
  refine ev_getI hok fk_Model_454 (woModel hw) (fun _ _ _ => rfl) dModel_keep_62 ?_
  refine ev_callS [.ref ((o + 54)), .ref ((o + 84)), .int ((I12 o 104))] [] (B' := (0, 0)) (B'' := (0, 0)) hok mmModel_copy mk_Model_811 rfl (Nat.le_of_ble_eq_true rfl) rfl (Nat.le_of_ble_eq_true rfl) dModel_keep_65 rfl (by decide) H (fun v τ p14 => ?_)
  obtain ⟨I16, L17, rfl, rfl, H⟩ := p14
  refine ev_aload_n dModel_keep_68 rfl ?_
  refine ev_getR hok fk_Model_531 (woModel hw) (fun _ _ _ => rfl) (wrModel_88 hw) dModel_keep_69 ?_
  refine ev_aload_n dModel_keep_72 rfl ?_
  refine ev_getR hok fk_Model_824 (woModel hw) (fun _ _ _ => rfl) (wrModel_146 hw) dModel_keep_73 ?_
  refine ev_aload_n dModel_keep_76 rfl ?_
  refine ev_getI hok fk_Model_454 (woModel hw) (fun _ _ _ => rfl) dModel_keep_77 ?_
  refine ev_callS [.ref ((o + 55)), .ref ((o + 85)), .int ((I16 o 104))] [] (B' := (0, 0)) (B'' := (0, 0)) hok mmModel_copy mk_Model_811 rfl (Nat.le_of_ble_eq_true rfl) rfl (Nat.le_of_ble_eq_true rfl) dModel_keep_80 rfl (by decide) H (fun v τ p18 => ?_)
  obtain ⟨I20, L21, rfl, rfl, H⟩ := p18
  refine ev_aload_n dModel_keep_83 rfl ?_
  refine ev_getR hok fk_Model_447 (woModel hw) (fun _ _ _ => rfl) (wrModel_89 hw) dModel_keep_84 ?_
  refine ev_aload_n dModel_keep_87 rfl ?_
  refine ev_getR hok fk_Model_827 (woModel hw) (fun _ _ _ => rfl) (wrModel_147 hw) dModel_keep_88 ?_
  refine ev_aload_n dModel_keep_91 rfl ?_
  refine ev_getI hok fk_Model_454 (woModel hw) (fun _ _ _ => rfl) dModel_keep_92 ?_
  refine ev_callS [.ref ((o + 56)), .ref ((o + 86)), .int ((I20 o 104))] [] (B' := (0, 0)) (B'' := (0, 0)) hok mmModel_copy mk_Model_811 rfl (Nat.le_of_ble_eq_true rfl) rfl (Nat.le_of_ble_eq_true rfl) dModel_keep_95 rfl (by decide) H (fun v τ p22 => ?_)
  obtain ⟨I24, L25, rfl, rfl, H⟩ := p22
  refine ev_aload_n dModel_keep_98 rfl ?_
  refine ev_getR hok fk_Model_534 (woModel hw) (fun _ _ _ => rfl) (wrModel_98 hw) dModel_keep_99 ?_
  refine ev_aload_n dModel_keep_102 rfl ?_
  refine ev_getR hok fk_Model_830 (woModel hw) (fun _ _ _ => rfl) (wrModel_157 hw) dModel_keep_103 ?_
  refine ev_aload_n dModel_keep_106 rfl ?_
  refine ev_getI hok fk_Model_454 (woModel hw) (fun _ _ _ => rfl) dModel_keep_107 ?_
  refine ev_callS [.ref ((o + 65)), .ref ((o + 96)), .int ((I24 o 104))] [] (B' := (0, 0)) (B'' := (0, 0)) hok mmModel_copyTruths mk_Model_833 rfl (Nat.le_of_ble_eq_true rfl) rfl (Nat.le_of_ble_eq_true rfl) dModel_keep_110 rfl (by decide) H (fun v τ p26 => ?_)
  obtain ⟨I28, L29, rfl, rfl, H⟩ := p26
  refine ev_aload_n dModel_keep_113 rfl ?_
  refine ev_getR hok fk_Model_450 (woModel hw) (fun _ _ _ => rfl) (wrModel_99 hw) dModel_keep_114 ?_
  refine ev_aload_n dModel_keep_117 rfl ?_
  refine ev_getR hok fk_Model_837 (woModel hw) (fun _ _ _ => rfl) (wrModel_158 hw) dModel_keep_118 ?_
  refine ev_aload_n dModel_keep_121 rfl ?_
  refine ev_getI hok fk_Model_454 (woModel hw) (fun _ _ _ => rfl) dModel_keep_122 ?_
  refine ev_callS [.ref ((o + 66)), .ref ((o + 97)), .int ((I28 o 104))] [] (B' := (0, 0)) (B'' := (0, 0)) hok mmModel_copyTruths mk_Model_833 rfl (Nat.le_of_ble_eq_true rfl) rfl (Nat.le_of_ble_eq_true rfl) dModel_keep_125 rfl (by decide) H (fun v τ p30 => ?_)
  obtain ⟨I32, L33, rfl, rfl, H⟩ := p30
  refine ev_aload_n dModel_keep_128 rfl ?_
  refine ev_getR hok fk_Model_513 (woModel hw) (fun _ _ _ => rfl) (wrModel_75 hw) dModel_keep_129 ?_
  refine ev_aload_n dModel_keep_132 rfl ?_
  refine ev_getR hok fk_Model_840 (woModel hw) (fun _ _ _ => rfl) (wrModel_148 hw) dModel_keep_133 ?_
  refine ev_iconst (3) dModel_keep_136 (by decide) ?_
  refine ev_callS [.ref ((o + 42)), .ref ((o + 87)), .int 3] [] (B' := (0, 0)) (B'' := (0, 0)) hok mmModel_copy mk_Model_811 rfl (Nat.le_of_ble_eq_true rfl) rfl (Nat.le_of_ble_eq_true rfl) dModel_keep_137 rfl (by decide) H (fun v τ p34 => ?_)
  obtain ⟨I36, L37, rfl, rfl, H⟩ := p34
  refine ev_aload_n dModel_keep_140 rfl ?_
  refine ev_getR hok fk_Model_469 (woModel hw) (fun _ _ _ => rfl) (wrModel_77 hw) dModel_keep_141 ?_
  refine ev_aload_n dModel_keep_144 rfl ?_
  refine ev_getR hok fk_Model_843 (woModel hw) (fun _ _ _ => rfl) (wrModel_149 hw) dModel_keep_145 ?_
  refine ev_iconst (3) dModel_keep_148 (by decide) ?_
  refine ev_callS [.ref ((o + 44)), .ref ((o + 88)), .int 3] [] (B' := (0, 0)) (B'' := (0, 0)) hok mmModel_copy mk_Model_811 rfl (Nat.le_of_ble_eq_true rfl) rfl (Nat.le_of_ble_eq_true rfl) dModel_keep_149 rfl (by decide) H (fun v τ p38 => ?_)
  obtain ⟨I40, L41, rfl, rfl, H⟩ := p38
  refine ev_aload_n dModel_keep_152 rfl ?_
  refine ev_getR hok fk_Model_474 (woModel hw) (fun _ _ _ => rfl) (wrModel_78 hw) dModel_keep_153 ?_
  refine ev_aload_n dModel_keep_156 rfl ?_
  refine ev_getR hok fk_Model_846 (woModel hw) (fun _ _ _ => rfl) (wrModel_150 hw) dModel_keep_157 ?_
  refine ev_iconst (5) dModel_keep_160 (by decide) ?_
  refine ev_callS [.ref ((o + 45)), .ref ((o + 89)), .int 5] [] (B' := (0, 0)) (B'' := (0, 0)) hok mmModel_copy mk_Model_811 rfl (Nat.le_of_ble_eq_true rfl) rfl (Nat.le_of_ble_eq_true rfl) dModel_keep_161 rfl (by decide) H (fun v τ p42 => ?_)
  obtain ⟨I44, L45, rfl, rfl, H⟩ := p42
  refine ev_aload_n dModel_keep_164 rfl ?_
  refine ev_getR hok fk_Model_584 (woModel hw) (fun _ _ _ => rfl) (wrModel_81 hw) dModel_keep_165 ?_
  refine ev_aload_n dModel_keep_168 rfl ?_
  refine ev_getR hok fk_Model_849 (woModel hw) (fun _ _ _ => rfl) (wrModel_151 hw) dModel_keep_169 ?_
  refine ev_bipush (18) dModel_keep_172 (by decide) ?_
  refine ev_callS [.ref ((o + 48)), .ref ((o + 90)), .int 18] [] (B' := (0, 0)) (B'' := (0, 0)) hok mmModel_copy mk_Model_811 rfl (Nat.le_of_ble_eq_true rfl) rfl (Nat.le_of_ble_eq_true rfl) dModel_keep_174 rfl (by decide) H (fun v τ p46 => ?_)
  obtain ⟨I48, L49, rfl, rfl, H⟩ := p46
  refine ev_aload_n dModel_keep_177 rfl ?_
  refine ev_getR hok fk_Model_522 (woModel hw) (fun _ _ _ => rfl) (wrModel_82 hw) dModel_keep_178 ?_
  refine ev_aload_n dModel_keep_181 rfl ?_
  refine ev_getR hok fk_Model_852 (woModel hw) (fun _ _ _ => rfl) (wrModel_152 hw) dModel_keep_182 ?_
  refine ev_bipush (6) dModel_keep_185 (by decide) ?_
  refine ev_callS [.ref ((o + 49)), .ref ((o + 91)), .int 6] [] (B' := (0, 0)) (B'' := (0, 0)) hok mmModel_copy mk_Model_811 rfl (Nat.le_of_ble_eq_true rfl) rfl (Nat.le_of_ble_eq_true rfl) dModel_keep_187 rfl (by decide) H (fun v τ p50 => ?_)
  obtain ⟨I52, L53, rfl, rfl, H⟩ := p50
  refine ev_aload_n dModel_keep_190 rfl ?_
  refine ev_getR hok fk_Model_578 (woModel hw) (fun _ _ _ => rfl) (wrModel_101 hw) dModel_keep_191 ?_
  refine ev_aload_n dModel_keep_194 rfl ?_
  refine ev_getR hok fk_Model_855 (woModel hw) (fun _ _ _ => rfl) (wrModel_159 hw) dModel_keep_195 ?_
  refine ev_bipush (6) dModel_keep_198 (by decide) ?_
  refine ev_callS [.ref ((o + 68)), .ref ((o + 98)), .int 6] [] (B' := (0, 0)) (B'' := (0, 0)) hok mmModel_copyLongs mk_Model_858 rfl (Nat.le_of_ble_eq_true rfl) rfl (Nat.le_of_ble_eq_true rfl) dModel_keep_200 rfl (by decide) H (fun v τ p54 => ?_)
  obtain ⟨I56, L57, rfl, rfl, H⟩ := p54
  refine ev_aload_n dModel_keep_203 rfl ?_
  refine ev_getR hok fk_Model_745 (woModel hw) (fun _ _ _ => rfl) (wrModel_129 hw) dModel_keep_204 ?_
  refine ev_aload_n dModel_keep_207 rfl ?_
  refine ev_getR hok fk_Model_862 (woModel hw) (fun _ _ _ => rfl) (wrModel_153 hw) dModel_keep_208 ?_
  refine ev_sipush (1440) dModel_keep_211 (by decide) ?_
  refine ev_callS [.ref ((o + 71)), .ref ((o + 92)), .int 1440] [] (B' := (0, 0)) (B'' := (0, 0)) hok mmModel_copy mk_Model_811 rfl (Nat.le_of_ble_eq_true rfl) rfl (Nat.le_of_ble_eq_true rfl) dModel_keep_214 rfl (by decide) H (fun v τ p58 => ?_)
  obtain ⟨I60, L61, rfl, rfl, H⟩ := p58
  refine ev_aload_n dModel_keep_217 rfl ?_
  refine ev_getR hok fk_Model_748 (woModel hw) (fun _ _ _ => rfl) (wrModel_130 hw) dModel_keep_218 ?_
  refine ev_aload_n dModel_keep_221 rfl ?_
  refine ev_getR hok fk_Model_865 (woModel hw) (fun _ _ _ => rfl) (wrModel_154 hw) dModel_keep_222 ?_
  refine ev_sipush (1440) dModel_keep_225 (by decide) ?_
  refine ev_callS [.ref ((o + 72)), .ref ((o + 93)), .int 1440] [] (B' := (0, 0)) (B'' := (0, 0)) hok mmModel_copy mk_Model_811 rfl (Nat.le_of_ble_eq_true rfl) rfl (Nat.le_of_ble_eq_true rfl) dModel_keep_228 rfl (by decide) H (fun v τ p62 => ?_)
  obtain ⟨I64, L65, rfl, rfl, H⟩ := p62
  refine ev_aload_n dModel_keep_231 rfl ?_
  refine ev_getR hok fk_Model_751 (woModel hw) (fun _ _ _ => rfl) (wrModel_131 hw) dModel_keep_232 ?_
  refine ev_aload_n dModel_keep_235 rfl ?_
  refine ev_getR hok fk_Model_868 (woModel hw) (fun _ _ _ => rfl) (wrModel_155 hw) dModel_keep_236 ?_
  refine ev_sipush (3600) dModel_keep_239 (by decide) ?_
  refine ev_callS [.ref ((o + 73)), .ref ((o + 94)), .int 3600] [] (B' := (0, 0)) (B'' := (0, 0)) hok mmModel_copy mk_Model_811 rfl (Nat.le_of_ble_eq_true rfl) rfl (Nat.le_of_ble_eq_true rfl) dModel_keep_242 rfl (by decide) H (fun v τ p66 => ?_)
  obtain ⟨I68, L69, rfl, rfl, H⟩ := p66
  refine ev_aload_n dModel_keep_245 rfl ?_
  refine ev_getR hok fk_Model_757 (woModel hw) (fun _ _ _ => rfl) (wrModel_132 hw) dModel_keep_246 ?_
  refine ev_aload_n dModel_keep_249 rfl ?_
  refine ev_getR hok fk_Model_871 (woModel hw) (fun _ _ _ => rfl) (wrModel_156 hw) dModel_keep_250 ?_
  refine ev_sipush (1440) dModel_keep_253 (by decide) ?_
  refine ev_callS [.ref ((o + 74)), .ref ((o + 95)), .int 1440] [] (B' := (0, 0)) (B'' := (0, 0)) hok mmModel_copy mk_Model_811 rfl (Nat.le_of_ble_eq_true rfl) rfl (Nat.le_of_ble_eq_true rfl) dModel_keep_256 rfl (by decide) H (fun v τ p70 => ?_)
  obtain ⟨I72, L73, rfl, rfl, H⟩ := p70
  refine ev_aload_n dModel_keep_259 rfl ?_
  refine ev_getR hok fk_Model_754 (woModel hw) (fun _ _ _ => rfl) (wrModel_133 hw) dModel_keep_260 ?_
  refine ev_aload_n dModel_keep_263 rfl ?_
  refine ev_getR hok fk_Model_874 (woModel hw) (fun _ _ _ => rfl) (wrModel_160 hw) dModel_keep_264 ?_
  refine ev_sipush (1440) dModel_keep_267 (by decide) ?_
  refine ev_callS [.ref ((o + 75)), .ref ((o + 99)), .int 1440] [] (B' := (0, 0)) (B'' := (0, 0)) hok mmModel_copyLongs mk_Model_858 rfl (Nat.le_of_ble_eq_true rfl) rfl (Nat.le_of_ble_eq_true rfl) dModel_keep_270 rfl (by decide) H (fun v τ p74 => ?_)
  obtain ⟨I76, L77, rfl, rfl, H⟩ := p74
  refine ev_aload_n dModel_keep_273 rfl ?_
  refine ev_getR hok fk_Model_760 (woModel hw) (fun _ _ _ => rfl) (wrModel_134 hw) dModel_keep_274 ?_
  refine ev_aload_n dModel_keep_277 rfl ?_
  refine ev_getR hok fk_Model_877 (woModel hw) (fun _ _ _ => rfl) (wrModel_161 hw) dModel_keep_278 ?_
  refine ev_sipush (1440) dModel_keep_281 (by decide) ?_
  refine ev_callS [.ref ((o + 76)), .ref ((o + 100)), .int 1440] [] (B' := (0, 0)) (B'' := (0, 0)) hok mmModel_copyLongs mk_Model_858 rfl (Nat.le_of_ble_eq_true rfl) rfl (Nat.le_of_ble_eq_true rfl) dModel_keep_284 rfl (by decide) H (fun v τ p78 => ?_)
  obtain ⟨I80, L81, rfl, rfl, H⟩ := p78
  refine ev_aload_n dModel_keep_287 rfl ?_
  refine ev_getR hok fk_Model_880 (woModel hw) (fun _ _ _ => rfl) (wrModel_162 hw) dModel_keep_288 ?_
  refine ev_iconst (0) dModel_keep_291 (by decide) ?_
  refine ev_aload_n dModel_keep_292 rfl ?_
  refine ev_getL hok fk_Model_630 (woModel hw) (fun _ _ _ => rfl) dModel_keep_293 ?_
  refine ev_last hok (waModel_162 hw) (by unfold vp_in; decide) dModel_keep_296 ?_
  rw [show (0 : Int32).toNatClampNeg = 0 from rfl]
  generalize eL82 : q_u L81 (o + 101) 0 (L81 o 112) = L82
  have H := H L82 eL82
  refine ev_aload_n dModel_keep_297 rfl ?_
  refine ev_getR hok fk_Model_880 (woModel hw) (fun _ _ _ => rfl) (wrModel_162 hw) dModel_keep_298 ?_
  refine ev_iconst (1) dModel_keep_301 (by decide) ?_
  refine ev_aload_n dModel_keep_302 rfl ?_
  refine ev_getL hok fk_Model_597 (woModel hw) (fun _ _ _ => rfl) dModel_keep_303 ?_
  refine ev_last hok (waModel_162 hw) (by unfold vp_in; decide) dModel_keep_306 ?_
  rw [show (1 : Int32).toNatClampNeg = 1 from rfl]
  generalize eL83 : q_u L82 (o + 101) 1 (L82 o 113) = L83
  have H := H L83 eL83
  refine ev_aload_n dModel_keep_307 rfl ?_
  refine ev_getR hok fk_Model_880 (woModel hw) (fun _ _ _ => rfl) (wrModel_162 hw) dModel_keep_308 ?_
  refine ev_iconst (2) dModel_keep_311 (by decide) ?_
  refine ev_aload_n dModel_keep_312 rfl ?_
  refine ev_getL hok fk_Model_581 (woModel hw) (fun _ _ _ => rfl) dModel_keep_313 ?_
  refine ev_last hok (waModel_162 hw) (by unfold vp_in; decide) dModel_keep_316 ?_
  rw [show (2 : Int32).toNatClampNeg = 2 from rfl]
  generalize eL84 : q_u L83 (o + 101) 2 (L83 o 114) = L84
  have H := H L84 eL84
  refine ev_aload_n dModel_keep_317 rfl ?_
  refine ev_getR hok fk_Model_880 (woModel hw) (fun _ _ _ => rfl) (wrModel_162 hw) dModel_keep_318 ?_
  refine ev_iconst (3) dModel_keep_321 (by decide) ?_
  refine ev_aload_n dModel_keep_322 rfl ?_
  refine ev_getL hok fk_Model_700 (woModel hw) (fun _ _ _ => rfl) dModel_keep_323 ?_
  refine ev_last hok (waModel_162 hw) (by unfold vp_in; decide) dModel_keep_326 ?_
  rw [show (3 : Int32).toNatClampNeg = 3 from rfl]
  generalize eL85 : q_u L84 (o + 101) 3 (L84 o 115) = L85
  have H := H L85 eL85
  refine ev_aload_n dModel_keep_327 rfl ?_
  refine ev_getR hok fk_Model_880 (woModel hw) (fun _ _ _ => rfl) (wrModel_162 hw) dModel_keep_328 ?_
  refine ev_iconst (4) dModel_keep_331 (by decide) ?_
  refine ev_aload_n dModel_keep_332 rfl ?_
  refine ev_getL hok fk_Model_703 (woModel hw) (fun _ _ _ => rfl) dModel_keep_333 ?_
  refine ev_last hok (waModel_162 hw) (by unfold vp_in; decide) dModel_keep_336 ?_
  rw [show (4 : Int32).toNatClampNeg = 4 from rfl]
  generalize eL86 : q_u L85 (o + 101) 4 (L85 o 116) = L86
  have H := H L86 eL86
  refine ev_aload_n dModel_keep_337 rfl ?_
  refine ev_getR hok fk_Model_880 (woModel hw) (fun _ _ _ => rfl) (wrModel_162 hw) dModel_keep_338 ?_
  refine ev_iconst (5) dModel_keep_341 (by decide) ?_
  refine ev_aload_n dModel_keep_342 rfl ?_
  refine ev_getL hok fk_Model_617 (woModel hw) (fun _ _ _ => rfl) dModel_keep_343 ?_
  refine ev_last hok (waModel_162 hw) (by unfold vp_in; decide) dModel_keep_346 ?_
  rw [show (5 : Int32).toNatClampNeg = 5 from rfl]
  generalize eL87 : q_u L86 (o + 101) 5 (L86 o 117) = L87
  have H := H L87 eL87
  refine ev_aload_n dModel_keep_347 rfl ?_
  refine ev_getR hok fk_Model_880 (woModel hw) (fun _ _ _ => rfl) (wrModel_162 hw) dModel_keep_348 ?_
  refine ev_bipush (6) dModel_keep_351 (by decide) ?_
  refine ev_aload_n dModel_keep_353 rfl ?_
  refine ev_getL hok fk_Model_614 (woModel hw) (fun _ _ _ => rfl) dModel_keep_354 ?_
  refine ev_last hok (waModel_162 hw) (by unfold vp_in; decide) dModel_keep_357 ?_
  rw [show (6 : Int32).toNatClampNeg = 6 from rfl]
  generalize eL88 : q_u L87 (o + 101) 6 (L87 o 118) = L88
  have H := H L88 eL88
  refine ev_aload_n dModel_keep_358 rfl ?_
  refine ev_getR hok fk_Model_880 (woModel hw) (fun _ _ _ => rfl) (wrModel_162 hw) dModel_keep_359 ?_
  refine ev_bipush (7) dModel_keep_362 (by decide) ?_
  refine ev_aload_n dModel_keep_364 rfl ?_
  refine ev_getL hok fk_Model_611 (woModel hw) (fun _ _ _ => rfl) dModel_keep_365 ?_
  refine ev_last hok (waModel_162 hw) (by unfold vp_in; decide) dModel_keep_368 ?_
  rw [show (7 : Int32).toNatClampNeg = 7 from rfl]
  generalize eL89 : q_u L88 (o + 101) 7 (L88 o 119) = L89
  have H := H L89 eL89
  exact ev_vret rfl dModel_keep_369 H
def fModel_madeAll_4 (D : va_G) (cA : FieldType → ClassId) (b : Nat) (E : State → Prop) (o : Nat) (n : Nat) (sh : Nat → qC) (Rf : Nat → Nat → Option Nat) (I : Nat → Nat → Int32) (L : Nat → Nat → Int64) (post : Option Value → qS → Prop) (x1 : Int32) (x2 : Int32) : Prop :=
  Ev (qGG D cA b E) mModel_pans 0 (0, 0) 0 (lv_args 0 [.ref o]) [] (n, sh, Rf, I, L) (fun v τ => ∃ (r2 : Int32) (I3 : Nat → Nat → Int32) (L4 : Nat → Nat → Int64), v = some (.int r2) ∧ τ = (n, sh, Rf, I3, L4) ∧ ((r2 ≤ x2 → post (some (.int x1)) (n, sh, Rf, I3, L4)) ∧ (¬ r2 ≤ x2 → vp_in x2 3 ∧ Ev (qGG D cA b E) mModel_madeAll 1 (0, 0) 4 [(0, .ref o), (1, .int ((x1 + (I3 (o + 44) (x2 : Int32).toNatClampNeg)))), (2, .int ((x2 + Int32.ofInt 1)))] [] (n, sh, Rf, I3, L4) post)))
set_option maxHeartbeats 4000000 in
set_option maxRecDepth 20000 in
theorem sModel_madeAll_4 {D : va_G} {cA : FieldType → ClassId} {b : Nat} {E : State → Prop} (o : Nat) (n : Nat) (sh : Nat → qC) (Rf : Nat → Nat → Option Nat) (I : Nat → Nat → Int32) (L : Nat → Nat → Int64) (post : Option Value → qS → Prop) (x1 : Int32) (x2 : Int32) (hok : q_ok (qGG D cA b E)) (hw : WfModel (qGG D cA b E) n sh Rf o) (H : fModel_madeAll_4 D cA b E o n sh Rf I L post x1 x2) : Ev (qGG D cA b E) mModel_madeAll 1 (0, 0) 4 [(0, .ref o), (1, .int x1), (2, .int x2)] [] (n, sh, Rf, I, L) post := by
  unfold fModel_madeAll_4 at H
  refine ev_iload_n dModel_madeAll_4 rfl ?_
  refine ev_aload_n dModel_madeAll_5 rfl ?_
  refine ev_callV [] [.int x2] (B' := (0, 0)) (B'' := (0, 0)) hok mmModel_pans mk_Model_433 (ci := 12) rfl rfl (woModel hw) rfl (Nat.le_of_ble_eq_true rfl) rfl (Nat.le_of_ble_eq_true rfl) dModel_madeAll_6 rfl (by decide) H (fun v τ p1 => ?_)
  obtain ⟨r2, I3, L4, rfl, rfl, H⟩ := p1
  refine ev_icmp_ge 27 dModel_madeAll_9 (by decide) (fun c5 => ?_) (fun c5 => ?_)
  · have H := H.1 c5
    refine ev_iload_n dModel_madeAll_27 rfl ?_
    exact ev_iret rfl dModel_madeAll_28 H
  · have H := H.2 c5
    refine ev_iload_n dModel_madeAll_12 rfl ?_
    refine ev_aload_n dModel_madeAll_13 rfl ?_
    refine ev_getR hok fk_Model_469 (woModel hw) (fun _ _ _ => rfl) (wrModel_77 hw) dModel_madeAll_14 ?_
    refine ev_iload_n dModel_madeAll_17 rfl ?_
    obtain ⟨h6, H⟩ := H
    refine ev_iald hok (waModel_77 hw) h6 dModel_madeAll_18 ?_
    refine ev_iadd dModel_madeAll_19 ?_
    refine ev_istore_n dModel_madeAll_20 (by decide) ?_
    refine ev_iinc dModel_madeAll_21 rfl (by decide) ?_
    refine ev_goto 4 dModel_madeAll_24 (by decide) ?_
    exact ev_sub [(0, .ref o), (1, .int ((x1 + (I3 (o + 44) (x2 : Int32).toNatClampNeg)))), (2, .int ((x2 + Int32.ofInt 1)))] rfl H
def fModel_madeAll_0 (D : va_G) (cA : FieldType → ClassId) (b : Nat) (E : State → Prop) (o : Nat) (n : Nat) (sh : Nat → qC) (Rf : Nat → Nat → Option Nat) (I : Nat → Nat → Int32) (L : Nat → Nat → Int64) (post : Option Value → qS → Prop)  : Prop :=
  Ev (qGG D cA b E) mModel_madeAll 1 (0, 0) 4 [(0, .ref o), (1, .int 0), (2, .int 0)] [] (n, sh, Rf, I, L) post
set_option maxHeartbeats 4000000 in
set_option maxRecDepth 20000 in
theorem sModel_madeAll_0 {D : va_G} {cA : FieldType → ClassId} {b : Nat} {E : State → Prop} (o : Nat) (n : Nat) (sh : Nat → qC) (Rf : Nat → Nat → Option Nat) (I : Nat → Nat → Int32) (L : Nat → Nat → Int64) (post : Option Value → qS → Prop)  (hok : q_ok (qGG D cA b E)) (hw : WfModel (qGG D cA b E) n sh Rf o) (H : fModel_madeAll_0 D cA b E o n sh Rf I L post ) : Ev (qGG D cA b E) mModel_madeAll 1 (0, 0) 0 [(0, .ref o)] [] (n, sh, Rf, I, L) post := by
  unfold fModel_madeAll_0 at H
  refine ev_iconst (0) dModel_madeAll_0 (by decide) ?_
  refine ev_istore_n dModel_madeAll_1 (by decide) ?_
  refine ev_iconst (0) dModel_madeAll_2 (by decide) ?_
  refine ev_istore_n dModel_madeAll_3 (by decide) ?_
  exact ev_sub [(0, .ref o), (1, .int 0), (2, .int 0)] rfl H
def fModel_make_107 (D : va_G) (cA : FieldType → ClassId) (b : Nat) (E : State → Prop) (o : Nat) (n : Nat) (sh : Nat → qC) (Rf : Nat → Nat → Option Nat) (I : Nat → Nat → Int32) (L : Nat → Nat → Int64) (post : Option Value → qS → Prop) (x1 : Int32) (x2 : Int32) (x3 : Int32) : Prop :=
  Ev (qGG D cA b E) mModel_make 1 (0, 0) 37 [(0, .ref o), (1, .int x1), (2, .int x2), (3, .int ((x3 + Int32.ofInt 1)))] [] (n, sh, Rf, I, L) post
set_option maxHeartbeats 4000000 in
set_option maxRecDepth 20000 in
theorem sModel_make_107 {D : va_G} {cA : FieldType → ClassId} {b : Nat} {E : State → Prop} (o : Nat) (n : Nat) (sh : Nat → qC) (Rf : Nat → Nat → Option Nat) (I : Nat → Nat → Int32) (L : Nat → Nat → Int64) (post : Option Value → qS → Prop) (x1 : Int32) (x2 : Int32) (x3 : Int32) (hok : q_ok (qGG D cA b E)) (hw : WfModel (qGG D cA b E) n sh Rf o) (H : fModel_make_107 D cA b E o n sh Rf I L post x1 x2 x3) : Ev (qGG D cA b E) mModel_make 1 (0, 0) 107 [(0, .ref o), (1, .int x1), (2, .int x2), (3, .int x3)] [] (n, sh, Rf, I, L) post := by
  unfold fModel_make_107 at H
  refine ev_iinc dModel_make_107 rfl (by decide) ?_
  refine ev_goto 37 dModel_make_110 (by decide) ?_
  exact ev_sub [(0, .ref o), (1, .int x1), (2, .int x2), (3, .int ((x3 + Int32.ofInt 1)))] rfl H
def fModel_make_106 (D : va_G) (cA : FieldType → ClassId) (b : Nat) (E : State → Prop) (o : Nat) (n : Nat) (sh : Nat → qC) (Rf : Nat → Nat → Option Nat) (I : Nat → Nat → Int32) (L : Nat → Nat → Int64) (post : Option Value → qS → Prop) (x1 : Int32) (x2 : Int32) (x3 : Int32) (z0 : Int32) : Prop :=
  fModel_make_107 D cA b E o n sh Rf I L post x1 z0 x3
set_option maxHeartbeats 4000000 in
set_option maxRecDepth 20000 in
theorem sModel_make_106 {D : va_G} {cA : FieldType → ClassId} {b : Nat} {E : State → Prop} (o : Nat) (n : Nat) (sh : Nat → qC) (Rf : Nat → Nat → Option Nat) (I : Nat → Nat → Int32) (L : Nat → Nat → Int64) (post : Option Value → qS → Prop) (x1 : Int32) (x2 : Int32) (x3 : Int32) (z0 : Int32) (hok : q_ok (qGG D cA b E)) (hw : WfModel (qGG D cA b E) n sh Rf o) (H : fModel_make_106 D cA b E o n sh Rf I L post x1 x2 x3 z0) : Ev (qGG D cA b E) mModel_make 1 (0, 0) 106 [(0, .ref o), (1, .int x1), (2, .int x2), (3, .int x3)] [.int z0] (n, sh, Rf, I, L) post := by
  unfold fModel_make_106 at H
  refine ev_istore_n dModel_make_106 (by decide) ?_
  exact ev_sub [(0, .ref o), (1, .int x1), (2, .int z0), (3, .int x3)] rfl (sModel_make_107 o n sh Rf I L post x1 z0 x3 hok hw H)
def fModel_make_37 (D : va_G) (cA : FieldType → ClassId) (b : Nat) (E : State → Prop) (o : Nat) (n : Nat) (sh : Nat → qC) (Rf : Nat → Nat → Option Nat) (I : Nat → Nat → Int32) (L : Nat → Nat → Int64) (post : Option Value → qS → Prop) (x1 : Int32) (x2 : Int32) (x3 : Int32) : Prop :=
  (((I o 67) ≤ x3 → vp_in x1 3 ∧ vp_in x1 3 ∧ ∀ I3 : Nat → Nat → Int32, q_u I (o + 44) (x1 : Int32).toNatClampNeg ((I (o + 44) (x1 : Int32).toNatClampNeg) + x2) = I3 → Ev (qGG D cA b E) mModel_make 1 (0, 0) 2 [(0, .ref o), (1, .int ((x1 + Int32.ofInt 1)))] [] (n, sh, Rf, I3, L) post) ∧ (¬ (I o 67) ≤ x3 → Ev (qGG D cA b E) mModel_counts 0 (0, 0) 0 (lv_args 0 [.ref o, .int x3, .int 0]) [] (n, sh, Rf, I, L) (fun v τ => ∃ (r6 : Int32) (I7 : Nat → Nat → Int32) (L8 : Nat → Nat → Int64), v = some (.int r6) ∧ τ = (n, sh, Rf, I7, L8) ∧ ((r6 = 0 → fModel_make_107 D cA b E o n sh Rf I7 L8 post x1 x2 x3) ∧ (¬ r6 = 0 → vp_in x3 40 ∧ ((¬ (I7 (o + 37) (x3 : Int32).toNatClampNeg) = x1 → fModel_make_107 D cA b E o n sh Rf I7 L8 post x1 x2 x3) ∧ ((I7 (o + 37) (x3 : Int32).toNatClampNeg) = x1 → vp_in x3 40 ∧ (((I7 (o + 38) (x3 : Int32).toNatClampNeg) = (I7 o 57) → vp_in x3 40 ∧ ((((x2 * (I7 (o + 39) (x3 : Int32).toNatClampNeg)) / 100) ≤ 999999 → fModel_make_106 D cA b E o n sh Rf I7 L8 post x1 ((x2 * (I7 (o + 39) (x3 : Int32).toNatClampNeg)) / 100) x3 ((x2 * (I7 (o + 39) (x3 : Int32).toNatClampNeg)) / 100)) ∧ (¬ ((x2 * (I7 (o + 39) (x3 : Int32).toNatClampNeg)) / 100) ≤ 999999 → fModel_make_106 D cA b E o n sh Rf I7 L8 post x1 ((x2 * (I7 (o + 39) (x3 : Int32).toNatClampNeg)) / 100) x3 999999))) ∧ (¬ (I7 (o + 38) (x3 : Int32).toNatClampNeg) = (I7 o 57) → fModel_make_107 D cA b E o n sh Rf I7 L8 post x1 x2 x3)))))))))
set_option maxHeartbeats 4000000 in
set_option maxRecDepth 20000 in
theorem sModel_make_37 {D : va_G} {cA : FieldType → ClassId} {b : Nat} {E : State → Prop} (o : Nat) (n : Nat) (sh : Nat → qC) (Rf : Nat → Nat → Option Nat) (I : Nat → Nat → Int32) (L : Nat → Nat → Int64) (post : Option Value → qS → Prop) (x1 : Int32) (x2 : Int32) (x3 : Int32) (hok : q_ok (qGG D cA b E)) (hw : WfModel (qGG D cA b E) n sh Rf o) (H : fModel_make_37 D cA b E o n sh Rf I L post x1 x2 x3) : Ev (qGG D cA b E) mModel_make 1 (0, 0) 37 [(0, .ref o), (1, .int x1), (2, .int x2), (3, .int x3)] [] (n, sh, Rf, I, L) post := by
  unfold fModel_make_37 at H
  refine ev_iload_n dModel_make_37 rfl ?_
  refine ev_aload_n dModel_make_38 rfl ?_
  refine ev_getI hok fk_Model_169 (woModel hw) (fun _ _ _ => rfl) dModel_make_39 ?_
  refine ev_icmp_ge 113 dModel_make_42 (by decide) (fun c1 => ?_) (fun c1 => ?_)
  · have H := H.1 c1
    refine ev_aload_n dModel_make_113 rfl ?_
    refine ev_getR hok fk_Model_469 (woModel hw) (fun _ _ _ => rfl) (wrModel_77 hw) dModel_make_114 ?_
    refine ev_iload_n dModel_make_117 rfl ?_
    refine ev_dup2_11 dModel_make_118 rfl rfl ?_
    obtain ⟨h2, H⟩ := H
    refine ev_iald hok (waModel_77 hw) h2 dModel_make_119 ?_
    refine ev_iload_n dModel_make_120 rfl ?_
    refine ev_iadd dModel_make_121 ?_
    obtain ⟨h4, H⟩ := H
    refine ev_iast hok (waModel_77 hw) h4 dModel_make_122 ?_
    generalize eI3 : q_u I (o + 44) (x1 : Int32).toNatClampNeg ((I (o + 44) (x1 : Int32).toNatClampNeg) + x2) = I3
    have H := H I3 eI3
    refine ev_iinc dModel_make_123 rfl (by decide) ?_
    refine ev_goto 2 dModel_make_126 (by decide) ?_
    exact ev_sub [(0, .ref o), (1, .int ((x1 + Int32.ofInt 1)))] rfl H
  · have H := H.2 c1
    refine ev_aload_n dModel_make_45 rfl ?_
    refine ev_iload_n dModel_make_46 rfl ?_
    refine ev_iconst (0) dModel_make_47 (by decide) ?_
    refine ev_callV [.int x3, .int 0] [] (B' := (0, 0)) (B'' := (0, 0)) hok mmModel_counts mk_Model_541 (ci := 12) rfl rfl (woModel hw) rfl (Nat.le_of_ble_eq_true rfl) rfl (Nat.le_of_ble_eq_true rfl) dModel_make_48 rfl (by decide) H (fun v τ p5 => ?_)
    obtain ⟨r6, I7, L8, rfl, rfl, H⟩ := p5
    refine ev_if_eq 107 dModel_make_51 (by decide) (fun c9 => ?_) (fun c9 => ?_)
    · have H := H.1 c9
      exact ev_sub [(0, .ref o), (1, .int x1), (2, .int x2), (3, .int x3)] rfl (sModel_make_107 o n sh Rf I7 L8 post x1 x2 x3 hok hw H)
    · have H := H.2 c9
      refine ev_aload_n dModel_make_54 rfl ?_
      refine ev_getR hok fk_Model_415 (woModel hw) (fun _ _ _ => rfl) (wrModel_61 hw) dModel_make_55 ?_
      refine ev_iload_n dModel_make_58 rfl ?_
      obtain ⟨h10, H⟩ := H
      refine ev_iald hok (waModel_61 hw) h10 dModel_make_59 ?_
      refine ev_iload_n dModel_make_60 rfl ?_
      refine ev_icmp_ne 107 dModel_make_61 (by decide) (fun c11 => ?_) (fun c11 => ?_)
      · have H := H.1 c11
        exact ev_sub [(0, .ref o), (1, .int x1), (2, .int x2), (3, .int x3)] rfl (sModel_make_107 o n sh Rf I7 L8 post x1 x2 x3 hok hw H)
      · have H := H.2 c11
        refine ev_aload_n dModel_make_64 rfl ?_
        refine ev_getR hok fk_Model_418 (woModel hw) (fun _ _ _ => rfl) (wrModel_62 hw) dModel_make_65 ?_
        refine ev_iload_n dModel_make_68 rfl ?_
        obtain ⟨h12, H⟩ := H
        refine ev_iald hok (waModel_62 hw) h12 dModel_make_69 ?_
        refine ev_aload_n dModel_make_70 rfl ?_
        refine ev_getI hok fk_Model_348 (woModel hw) (fun _ _ _ => rfl) dModel_make_71 ?_
        refine ev_icmp_eq 80 dModel_make_74 (by decide) (fun c13 => ?_) (fun c13 => ?_)
        · have H := H.1 c13
          refine ev_iload_n dModel_make_80 rfl ?_
          refine ev_aload_n dModel_make_81 rfl ?_
          refine ev_getR hok fk_Model_421 (woModel hw) (fun _ _ _ => rfl) (wrModel_63 hw) dModel_make_82 ?_
          refine ev_iload_n dModel_make_85 rfl ?_
          obtain ⟨h14, H⟩ := H
          refine ev_iald hok (waModel_63 hw) h14 dModel_make_86 ?_
          refine ev_imul dModel_make_87 ?_
          refine ev_bipush (100) dModel_make_88 (by decide) ?_
          refine ev_idiv dModel_make_90 (by decide) ?_
          refine ev_istore_n dModel_make_91 (by decide) ?_
          refine ev_iload_n dModel_make_92 rfl ?_
          refine ev_ldcw (999999) dModel_make_93 (q_t7 230 (by decide +kernel) rfl) ?_
          refine ev_icmp_le 105 dModel_make_96 (by decide) (fun c15 => ?_) (fun c15 => ?_)
          · have H := H.1 c15
            refine ev_iload_n dModel_make_105 rfl ?_
            exact ev_sub [(0, .ref o), (1, .int x1), (2, .int (((x2 * (I7 (o + 39) (x3 : Int32).toNatClampNeg)) / 100))), (3, .int x3)] rfl (sModel_make_106 o n sh Rf I7 L8 post x1 ((x2 * (I7 (o + 39) (x3 : Int32).toNatClampNeg)) / 100) x3 ((x2 * (I7 (o + 39) (x3 : Int32).toNatClampNeg)) / 100) hok hw H)
          · have H := H.2 c15
            refine ev_ldcw (999999) dModel_make_99 (q_t7 230 (by decide +kernel) rfl) ?_
            refine ev_goto 106 dModel_make_102 (by decide) ?_
            exact ev_sub [(0, .ref o), (1, .int x1), (2, .int (((x2 * (I7 (o + 39) (x3 : Int32).toNatClampNeg)) / 100))), (3, .int x3)] rfl (sModel_make_106 o n sh Rf I7 L8 post x1 ((x2 * (I7 (o + 39) (x3 : Int32).toNatClampNeg)) / 100) x3 999999 hok hw H)
        · have H := H.2 c13
          refine ev_goto 107 dModel_make_77 (by decide) ?_
          exact ev_sub [(0, .ref o), (1, .int x1), (2, .int x2), (3, .int x3)] rfl (sModel_make_107 o n sh Rf I7 L8 post x1 x2 x3 hok hw H)
def fModel_make_2 (D : va_G) (cA : FieldType → ClassId) (b : Nat) (E : State → Prop) (o : Nat) (n : Nat) (sh : Nat → qC) (Rf : Nat → Nat → Option Nat) (I : Nat → Nat → Int32) (L : Nat → Nat → Int64) (post : Option Value → qS → Prop) (x1 : Int32) : Prop :=
  Ev (qGG D cA b E) mModel_pans 0 (0, 0) 0 (lv_args 0 [.ref o]) [] (n, sh, Rf, I, L) (fun v τ => ∃ (r2 : Int32) (I3 : Nat → Nat → Int32) (L4 : Nat → Nat → Int64), v = some (.int r2) ∧ τ = (n, sh, Rf, I3, L4) ∧ ((r2 ≤ x1 → post none (n, sh, Rf, I3, L4)) ∧ (¬ r2 ≤ x1 → vp_in ((12 * ((3 * (I3 o 34)) + x1)) + ((I3 o 57) - (I3 o 57) / 12 * 12)) 72 ∧ Ev (qGG D cA b E) mModel_make 1 (0, 0) 37 [(0, .ref o), (1, .int x1), (2, .int ((I3 (o + 17) (((12 * ((3 * (I3 o 34)) + x1)) + ((I3 o 57) - (I3 o 57) / 12 * 12)) : Int32).toNatClampNeg))), (3, .int 0)] [] (n, sh, Rf, I3, L4) post)))
set_option maxHeartbeats 4000000 in
set_option maxRecDepth 20000 in
theorem sModel_make_2 {D : va_G} {cA : FieldType → ClassId} {b : Nat} {E : State → Prop} (o : Nat) (n : Nat) (sh : Nat → qC) (Rf : Nat → Nat → Option Nat) (I : Nat → Nat → Int32) (L : Nat → Nat → Int64) (post : Option Value → qS → Prop) (x1 : Int32) (hok : q_ok (qGG D cA b E)) (hw : WfModel (qGG D cA b E) n sh Rf o) (H : fModel_make_2 D cA b E o n sh Rf I L post x1) : Ev (qGG D cA b E) mModel_make 1 (0, 0) 2 [(0, .ref o), (1, .int x1)] [] (n, sh, Rf, I, L) post := by
  unfold fModel_make_2 at H
  refine ev_iload_n dModel_make_2 rfl ?_
  refine ev_aload_n dModel_make_3 rfl ?_
  refine ev_callV [] [.int x1] (B' := (0, 0)) (B'' := (0, 0)) hok mmModel_pans mk_Model_433 (ci := 12) rfl rfl (woModel hw) rfl (Nat.le_of_ble_eq_true rfl) rfl (Nat.le_of_ble_eq_true rfl) dModel_make_4 rfl (by decide) H (fun v τ p1 => ?_)
  obtain ⟨r2, I3, L4, rfl, rfl, H⟩ := p1
  refine ev_icmp_ge 129 dModel_make_7 (by decide) (fun c5 => ?_) (fun c5 => ?_)
  · have H := H.1 c5
    exact ev_vret rfl dModel_make_129 H
  · have H := H.2 c5
    refine ev_aload_n dModel_make_10 rfl ?_
    refine ev_getR hok fk_Model_245 (woModel hw) (fun _ _ _ => rfl) (wrModel_26 hw) dModel_make_11 ?_
    refine ev_bipush (12) dModel_make_14 (by decide) ?_
    refine ev_iconst (3) dModel_make_16 (by decide) ?_
    refine ev_aload_n dModel_make_17 rfl ?_
    refine ev_getI hok fk_Model_147 (woModel hw) (fun _ _ _ => rfl) dModel_make_18 ?_
    refine ev_imul dModel_make_21 ?_
    refine ev_iload_n dModel_make_22 rfl ?_
    refine ev_iadd dModel_make_23 ?_
    refine ev_imul dModel_make_24 ?_
    refine ev_aload_n dModel_make_25 rfl ?_
    refine ev_getI hok fk_Model_348 (woModel hw) (fun _ _ _ => rfl) dModel_make_26 ?_
    refine ev_bipush (12) dModel_make_29 (by decide) ?_
    refine ev_irem dModel_make_31 (by decide) ?_
    refine ev_iadd dModel_make_32 ?_
    obtain ⟨h6, H⟩ := H
    refine ev_iald hok (waModel_26 hw) h6 dModel_make_33 ?_
    refine ev_istore_n dModel_make_34 (by decide) ?_
    refine ev_iconst (0) dModel_make_35 (by decide) ?_
    refine ev_istore_n dModel_make_36 (by decide) ?_
    exact ev_sub [(0, .ref o), (1, .int x1), (2, .int ((I3 (o + 17) (((12 * ((3 * (I3 o 34)) + x1)) + ((I3 o 57) - (I3 o 57) / 12 * 12)) : Int32).toNatClampNeg))), (3, .int 0)] rfl H
def fModel_make_0 (D : va_G) (cA : FieldType → ClassId) (b : Nat) (E : State → Prop) (o : Nat) (n : Nat) (sh : Nat → qC) (Rf : Nat → Nat → Option Nat) (I : Nat → Nat → Int32) (L : Nat → Nat → Int64) (post : Option Value → qS → Prop)  : Prop :=
  Ev (qGG D cA b E) mModel_make 1 (0, 0) 2 [(0, .ref o), (1, .int 0)] [] (n, sh, Rf, I, L) post
set_option maxHeartbeats 4000000 in
set_option maxRecDepth 20000 in
theorem sModel_make_0 {D : va_G} {cA : FieldType → ClassId} {b : Nat} {E : State → Prop} (o : Nat) (n : Nat) (sh : Nat → qC) (Rf : Nat → Nat → Option Nat) (I : Nat → Nat → Int32) (L : Nat → Nat → Int64) (post : Option Value → qS → Prop)  (hok : q_ok (qGG D cA b E)) (hw : WfModel (qGG D cA b E) n sh Rf o) (H : fModel_make_0 D cA b E o n sh Rf I L post ) : Ev (qGG D cA b E) mModel_make 1 (0, 0) 0 [(0, .ref o)] [] (n, sh, Rf, I, L) post := by
  unfold fModel_make_0 at H
  refine ev_iconst (0) dModel_make_0 (by decide) ?_
  refine ev_istore_n dModel_make_1 (by decide) ?_
  exact ev_sub [(0, .ref o), (1, .int 0)] rfl H
def fModel_pan_31 (D : va_G) (cA : FieldType → ClassId) (b : Nat) (E : State → Prop) (o : Nat) (n : Nat) (sh : Nat → qC) (Rf : Nat → Nat → Option Nat) (I : Nat → Nat → Int32) (L : Nat → Nat → Int64) (post : Option Value → qS → Prop) (x1 : Int32) (x2 : Int32) (x3 : Int32) : Prop :=
  post (some (.int ((-1)))) (n, sh, Rf, I, L)
set_option maxHeartbeats 4000000 in
set_option maxRecDepth 20000 in
theorem sModel_pan_31 {D : va_G} {cA : FieldType → ClassId} {b : Nat} {E : State → Prop} (o : Nat) (n : Nat) (sh : Nat → qC) (Rf : Nat → Nat → Option Nat) (I : Nat → Nat → Int32) (L : Nat → Nat → Int64) (post : Option Value → qS → Prop) (x1 : Int32) (x2 : Int32) (x3 : Int32) (hok : q_ok (qGG D cA b E)) (hw : WfModel (qGG D cA b E) n sh Rf o) (H : fModel_pan_31 D cA b E o n sh Rf I L post x1 x2 x3) : Ev (qGG D cA b E) mModel_pan 1 (0, 0) 31 [(0, .ref o), (1, .int x1), (2, .int x2), (3, .int x3)] [] (n, sh, Rf, I, L) post := by
  unfold fModel_pan_31 at H
  refine ev_iconst (-1) dModel_pan_31 (by decide) ?_
  refine ev_goto 50 dModel_pan_32 (by decide) ?_
  exact ev_iret rfl dModel_pan_50 H
def fModel_pan_0 (D : va_G) (cA : FieldType → ClassId) (b : Nat) (E : State → Prop) (o : Nat) (n : Nat) (sh : Nat → qC) (Rf : Nat → Nat → Option Nat) (I : Nat → Nat → Int32) (L : Nat → Nat → Int64) (post : Option Value → qS → Prop) (x1 : Int32) (x2 : Int32) (x3 : Int32) : Prop :=
  Ev (qGG D cA b E) mModel_pans 0 (0, 0) 0 (lv_args 0 [.ref o]) [] (n, sh, Rf, I, L) (fun v τ => ∃ (r2 : Int32) (I3 : Nat → Nat → Int32) (L4 : Nat → Nat → Int64), v = some (.int r2) ∧ τ = (n, sh, Rf, I3, L4) ∧ Ev (qGG D cA b E) mModel_isIn 0 (0, 0) 0 (lv_args 0 [.int x1, .int 0, .int ((r2 - 1))]) [] (n, sh, Rf, I3, L4) (fun v τ => ∃ (r6 : Int32) (I7 : Nat → Nat → Int32) (L8 : Nat → Nat → Int64), v = some (.int r6) ∧ τ = (n, sh, Rf, I7, L8) ∧ ((r6 = 0 → fModel_pan_31 D cA b E o n sh Rf I7 L8 post x1 x2 x3) ∧ (¬ r6 = 0 → Ev (qGG D cA b E) mModel_isRanMonth 0 (0, 0) 0 (lv_args 0 [.ref o, .int x2]) [] (n, sh, Rf, I7, L8) (fun v τ => ∃ (r11 : Int32) (I12 : Nat → Nat → Int32) (L13 : Nat → Nat → Int64), v = some (.int r11) ∧ τ = (n, sh, Rf, I12, L13) ∧ ((r11 = 0 → fModel_pan_31 D cA b E o n sh Rf I12 L13 post x1 x2 x3) ∧ (¬ r11 = 0 → Ev (qGG D cA b E) mModel_isIn 0 (0, 0) 0 (lv_args 0 [.int x3, .int 0, .int 1]) [] (n, sh, Rf, I12, L13) (fun v τ => ∃ (r16 : Int32) (I17 : Nat → Nat → Int32) (L18 : Nat → Nat → Int64), v = some (.int r16) ∧ τ = (n, sh, Rf, I17, L18) ∧ ((¬ r16 = 0 → vp_in (((6 * x2) + (2 * x1)) + x3) 1440 ∧ post (some (.int ((I17 (o + 72) ((((6 * x2) + (2 * x1)) + x3) : Int32).toNatClampNeg)))) (n, sh, Rf, I17, L18)) ∧ (r16 = 0 → fModel_pan_31 D cA b E o n sh Rf I17 L18 post x1 x2 x3))))))))))
set_option maxHeartbeats 4000000 in
set_option maxRecDepth 20000 in
theorem sModel_pan_0 {D : va_G} {cA : FieldType → ClassId} {b : Nat} {E : State → Prop} (o : Nat) (n : Nat) (sh : Nat → qC) (Rf : Nat → Nat → Option Nat) (I : Nat → Nat → Int32) (L : Nat → Nat → Int64) (post : Option Value → qS → Prop) (x1 : Int32) (x2 : Int32) (x3 : Int32) (hok : q_ok (qGG D cA b E)) (hw : WfModel (qGG D cA b E) n sh Rf o) (H : fModel_pan_0 D cA b E o n sh Rf I L post x1 x2 x3) : Ev (qGG D cA b E) mModel_pan 1 (0, 0) 0 [(0, .ref o), (1, .int x1), (2, .int x2), (3, .int x3)] [] (n, sh, Rf, I, L) post := by
  unfold fModel_pan_0 at H
  refine ev_iload_n dModel_pan_0 rfl ?_
  refine ev_iconst (0) dModel_pan_1 (by decide) ?_
  refine ev_aload_n dModel_pan_2 rfl ?_
  refine ev_callV [] [.int 0, .int x1] (B' := (0, 0)) (B'' := (0, 0)) hok mmModel_pans mk_Model_433 (ci := 12) rfl rfl (woModel hw) rfl (Nat.le_of_ble_eq_true rfl) rfl (Nat.le_of_ble_eq_true rfl) dModel_pan_3 rfl (by decide) H (fun v τ p1 => ?_)
  obtain ⟨r2, I3, L4, rfl, rfl, H⟩ := p1
  refine ev_iconst (1) dModel_pan_6 (by decide) ?_
  refine ev_isub dModel_pan_7 ?_
  refine ev_callS [.int x1, .int 0, .int ((r2 - 1))] [] (B' := (0, 0)) (B'' := (0, 0)) hok mmModel_isIn mk_Model_393 rfl (Nat.le_of_ble_eq_true rfl) rfl (Nat.le_of_ble_eq_true rfl) dModel_pan_8 rfl (by decide) H (fun v τ p5 => ?_)
  obtain ⟨r6, I7, L8, rfl, rfl, H⟩ := p5
  refine ev_if_eq 31 dModel_pan_11 (by decide) (fun c9 => ?_) (fun c9 => ?_)
  · have H := H.1 c9
    exact ev_sub [(0, .ref o), (1, .int x1), (2, .int x2), (3, .int x3)] rfl (sModel_pan_31 o n sh Rf I7 L8 post x1 x2 x3 hok hw H)
  · have H := H.2 c9
    refine ev_aload_n dModel_pan_14 rfl ?_
    refine ev_iload_n dModel_pan_15 rfl ?_
    refine ev_callV [.int x2] [] (B' := (0, 0)) (B'' := (0, 0)) hok mmModel_isRanMonth mk_Model_780 (ci := 12) rfl rfl (woModel hw) rfl (Nat.le_of_ble_eq_true rfl) rfl (Nat.le_of_ble_eq_true rfl) dModel_pan_16 rfl (by decide) H (fun v τ p10 => ?_)
    obtain ⟨r11, I12, L13, rfl, rfl, H⟩ := p10
    refine ev_if_eq 31 dModel_pan_19 (by decide) (fun c14 => ?_) (fun c14 => ?_)
    · have H := H.1 c14
      exact ev_sub [(0, .ref o), (1, .int x1), (2, .int x2), (3, .int x3)] rfl (sModel_pan_31 o n sh Rf I12 L13 post x1 x2 x3 hok hw H)
    · have H := H.2 c14
      refine ev_iload_n dModel_pan_22 rfl ?_
      refine ev_iconst (0) dModel_pan_23 (by decide) ?_
      refine ev_iconst (1) dModel_pan_24 (by decide) ?_
      refine ev_callS [.int x3, .int 0, .int 1] [] (B' := (0, 0)) (B'' := (0, 0)) hok mmModel_isIn mk_Model_393 rfl (Nat.le_of_ble_eq_true rfl) rfl (Nat.le_of_ble_eq_true rfl) dModel_pan_25 rfl (by decide) H (fun v τ p15 => ?_)
      obtain ⟨r16, I17, L18, rfl, rfl, H⟩ := p15
      refine ev_if_ne 35 dModel_pan_28 (by decide) (fun c19 => ?_) (fun c19 => ?_)
      · have H := H.1 c19
        refine ev_aload_n dModel_pan_35 rfl ?_
        refine ev_getR hok fk_Model_748 (woModel hw) (fun _ _ _ => rfl) (wrModel_130 hw) dModel_pan_36 ?_
        refine ev_bipush (6) dModel_pan_39 (by decide) ?_
        refine ev_iload_n dModel_pan_41 rfl ?_
        refine ev_imul dModel_pan_42 ?_
        refine ev_iconst (2) dModel_pan_43 (by decide) ?_
        refine ev_iload_n dModel_pan_44 rfl ?_
        refine ev_imul dModel_pan_45 ?_
        refine ev_iadd dModel_pan_46 ?_
        refine ev_iload_n dModel_pan_47 rfl ?_
        refine ev_iadd dModel_pan_48 ?_
        obtain ⟨h20, H⟩ := H
        refine ev_iald hok (waModel_130 hw) h20 dModel_pan_49 ?_
        exact ev_iret rfl dModel_pan_50 H
      · have H := H.2 c19
        exact ev_sub [(0, .ref o), (1, .int x1), (2, .int x2), (3, .int x3)] rfl (sModel_pan_31 o n sh Rf I17 L18 post x1 x2 x3 hok hw H)
def fModel_pointAt_73 (D : va_G) (cA : FieldType → ClassId) (b : Nat) (E : State → Prop) (o : Nat) (n : Nat) (sh : Nat → qC) (Rf : Nat → Nat → Option Nat) (I : Nat → Nat → Int32) (L : Nat → Nat → Int64) (post : Option Value → qS → Prop) (x1 : Int32) (x2 : Int32) (x3 : Int32) : Prop :=
  post (some (.int 0)) (n, sh, Rf, I, L)
set_option maxHeartbeats 4000000 in
set_option maxRecDepth 20000 in
theorem sModel_pointAt_73 {D : va_G} {cA : FieldType → ClassId} {b : Nat} {E : State → Prop} (o : Nat) (n : Nat) (sh : Nat → qC) (Rf : Nat → Nat → Option Nat) (I : Nat → Nat → Int32) (L : Nat → Nat → Int64) (post : Option Value → qS → Prop) (x1 : Int32) (x2 : Int32) (x3 : Int32) (hok : q_ok (qGG D cA b E)) (hw : WfModel (qGG D cA b E) n sh Rf o) (H : fModel_pointAt_73 D cA b E o n sh Rf I L post x1 x2 x3) : Ev (qGG D cA b E) mModel_pointAt 1 (0, 0) 73 [(0, .ref o), (1, .int x1), (2, .int x2), (3, .int x3)] [] (n, sh, Rf, I, L) post := by
  unfold fModel_pointAt_73 at H
  refine ev_iconst (0) dModel_pointAt_73 (by decide) ?_
  refine ev_goto 78 dModel_pointAt_74 (by decide) ?_
  exact ev_iret rfl dModel_pointAt_78 H
def fModel_pointAt_44 (D : va_G) (cA : FieldType → ClassId) (b : Nat) (E : State → Prop) (o : Nat) (n : Nat) (sh : Nat → qC) (Rf : Nat → Nat → Option Nat) (I : Nat → Nat → Int32) (L : Nat → Nat → Int64) (post : Option Value → qS → Prop) (x1 : Int32) (x2 : Int32) (x3 : Int32) : Prop :=
  ((x2 < 1 → fModel_pointAt_73 D cA b E o n sh Rf I L post x1 x2 x3) ∧ (¬ x2 < 1 → ((2 < x2 → fModel_pointAt_73 D cA b E o n sh Rf I L post x1 x2 x3) ∧ (¬ 2 < x2 → ((16 ≤ x3 → fModel_pointAt_73 D cA b E o n sh Rf I L post x1 x2 x3) ∧ (¬ 16 ≤ x3 → Ev (qGG D cA b E) mModel_sign 0 (0, 0) 0 (lv_args 0 [.ref o, .int ((x1 + x2))]) [] (n, sh, Rf, I, L) (fun v τ => ∃ (r5 : Int32) (I6 : Nat → Nat → Int32) (L7 : Nat → Nat → Int64), v = some (.int r5) ∧ τ = (n, sh, Rf, I6, L7) ∧ Ev (qGG D cA b E) mModel_isLetter 0 (0, 0) 0 (lv_args 0 [.int r5]) [] (n, sh, Rf, I6, L7) (fun v τ => ∃ (r9 : Int32) (I10 : Nat → Nat → Int32) (L11 : Nat → Nat → Int64), v = some (.int r9) ∧ τ = (n, sh, Rf, I10, L11) ∧ ((r9 = 0 → post (some (.int x2)) (n, sh, Rf, I10, L11)) ∧ (¬ r9 = 0 → fModel_pointAt_73 D cA b E o n sh Rf I10 L11 post x1 x2 x3))))))))))
set_option maxHeartbeats 4000000 in
set_option maxRecDepth 20000 in
theorem sModel_pointAt_44 {D : va_G} {cA : FieldType → ClassId} {b : Nat} {E : State → Prop} (o : Nat) (n : Nat) (sh : Nat → qC) (Rf : Nat → Nat → Option Nat) (I : Nat → Nat → Int32) (L : Nat → Nat → Int64) (post : Option Value → qS → Prop) (x1 : Int32) (x2 : Int32) (x3 : Int32) (hok : q_ok (qGG D cA b E)) (hw : WfModel (qGG D cA b E) n sh Rf o) (H : fModel_pointAt_44 D cA b E o n sh Rf I L post x1 x2 x3) : Ev (qGG D cA b E) mModel_pointAt 1 (0, 0) 44 [(0, .ref o), (1, .int x1), (2, .int x2), (3, .int x3)] [] (n, sh, Rf, I, L) post := by
  unfold fModel_pointAt_44 at H
  refine ev_iload_n dModel_pointAt_44 rfl ?_
  refine ev_iconst (1) dModel_pointAt_45 (by decide) ?_
  refine ev_icmp_lt 73 dModel_pointAt_46 (by decide) (fun c1 => ?_) (fun c1 => ?_)
  · have H := H.1 c1
    exact ev_sub [(0, .ref o), (1, .int x1), (2, .int x2), (3, .int x3)] rfl (sModel_pointAt_73 o n sh Rf I L post x1 x2 x3 hok hw H)
  · have H := H.2 c1
    refine ev_iload_n dModel_pointAt_49 rfl ?_
    refine ev_iconst (2) dModel_pointAt_50 (by decide) ?_
    refine ev_icmp_gt 73 dModel_pointAt_51 (by decide) (fun c2 => ?_) (fun c2 => ?_)
    · have H := H.1 c2
      exact ev_sub [(0, .ref o), (1, .int x1), (2, .int x2), (3, .int x3)] rfl (sModel_pointAt_73 o n sh Rf I L post x1 x2 x3 hok hw H)
    · have H := H.2 c2
      refine ev_iload_n dModel_pointAt_54 rfl ?_
      refine ev_bipush (16) dModel_pointAt_55 (by decide) ?_
      refine ev_icmp_ge 73 dModel_pointAt_57 (by decide) (fun c3 => ?_) (fun c3 => ?_)
      · have H := H.1 c3
        exact ev_sub [(0, .ref o), (1, .int x1), (2, .int x2), (3, .int x3)] rfl (sModel_pointAt_73 o n sh Rf I L post x1 x2 x3 hok hw H)
      · have H := H.2 c3
        refine ev_aload_n dModel_pointAt_60 rfl ?_
        refine ev_iload_n dModel_pointAt_61 rfl ?_
        refine ev_iload_n dModel_pointAt_62 rfl ?_
        refine ev_iadd dModel_pointAt_63 ?_
        refine ev_callV [.int ((x1 + x2))] [] (B' := (0, 0)) (B'' := (0, 0)) hok mmModel_sign mk_Model_81 (ci := 12) rfl rfl (woModel hw) rfl (Nat.le_of_ble_eq_true rfl) rfl (Nat.le_of_ble_eq_true rfl) dModel_pointAt_64 rfl (by decide) H (fun v τ p4 => ?_)
        obtain ⟨r5, I6, L7, rfl, rfl, H⟩ := p4
        refine ev_callS [.int r5] [] (B' := (0, 0)) (B'' := (0, 0)) hok mmModel_isLetter mk_Model_89 rfl (Nat.le_of_ble_eq_true rfl) rfl (Nat.le_of_ble_eq_true rfl) dModel_pointAt_67 rfl (by decide) H (fun v τ p8 => ?_)
        obtain ⟨r9, I10, L11, rfl, rfl, H⟩ := p8
        refine ev_if_eq 77 dModel_pointAt_70 (by decide) (fun c12 => ?_) (fun c12 => ?_)
        · have H := H.1 c12
          refine ev_iload_n dModel_pointAt_77 rfl ?_
          exact ev_iret rfl dModel_pointAt_78 H
        · have H := H.2 c12
          exact ev_sub [(0, .ref o), (1, .int x1), (2, .int x2), (3, .int x3)] rfl (sModel_pointAt_73 o n sh Rf I10 L11 post x1 x2 x3 hok hw H)
def fModel_pointAt_4 (D : va_G) (cA : FieldType → ClassId) (b : Nat) (E : State → Prop) (o : Nat) (n : Nat) (sh : Nat → qC) (Rf : Nat → Nat → Option Nat) (I : Nat → Nat → Int32) (L : Nat → Nat → Int64) (post : Option Value → qS → Prop) (x1 : Int32) (x2 : Int32) (x3 : Int32) : Prop :=
  ((3 ≤ x2 → fModel_pointAt_44 D cA b E o n sh Rf I L post x1 x2 x3) ∧ (¬ 3 ≤ x2 → Ev (qGG D cA b E) mModel_sign 0 (0, 0) 0 (lv_args 0 [.ref o, .int ((x1 + x2))]) [] (n, sh, Rf, I, L) (fun v τ => ∃ (r3 : Int32) (I4 : Nat → Nat → Int32) (L5 : Nat → Nat → Int64), v = some (.int r3) ∧ τ = (n, sh, Rf, I4, L5) ∧ Ev (qGG D cA b E) mModel_isDigit 0 (0, 0) 0 (lv_args 0 [.int r3]) [] (n, sh, Rf, I4, L5) (fun v τ => ∃ (r7 : Int32) (I8 : Nat → Nat → Int32) (L9 : Nat → Nat → Int64), v = some (.int r7) ∧ τ = (n, sh, Rf, I8, L9) ∧ ((r7 = 0 → fModel_pointAt_44 D cA b E o n sh Rf I8 L9 post x1 x2 x3) ∧ (¬ r7 = 0 → Ev (qGG D cA b E) mModel_sign 0 (0, 0) 0 (lv_args 0 [.ref o, .int ((x1 + x2))]) [] (n, sh, Rf, I8, L9) (fun v τ => ∃ (r12 : Int32) (I13 : Nat → Nat → Int32) (L14 : Nat → Nat → Int64), v = some (.int r12) ∧ τ = (n, sh, Rf, I13, L14) ∧ Ev (qGG D cA b E) mModel_pointAt 1 (0, 0) 4 [(0, .ref o), (1, .int x1), (2, .int ((x2 + Int32.ofInt 1))), (3, .int ((((10 * x3) + r12) - 48)))] [] (n, sh, Rf, I13, L14) post)))))))
set_option maxHeartbeats 4000000 in
set_option maxRecDepth 20000 in
theorem sModel_pointAt_4 {D : va_G} {cA : FieldType → ClassId} {b : Nat} {E : State → Prop} (o : Nat) (n : Nat) (sh : Nat → qC) (Rf : Nat → Nat → Option Nat) (I : Nat → Nat → Int32) (L : Nat → Nat → Int64) (post : Option Value → qS → Prop) (x1 : Int32) (x2 : Int32) (x3 : Int32) (hok : q_ok (qGG D cA b E)) (hw : WfModel (qGG D cA b E) n sh Rf o) (H : fModel_pointAt_4 D cA b E o n sh Rf I L post x1 x2 x3) : Ev (qGG D cA b E) mModel_pointAt 1 (0, 0) 4 [(0, .ref o), (1, .int x1), (2, .int x2), (3, .int x3)] [] (n, sh, Rf, I, L) post := by
  unfold fModel_pointAt_4 at H
  refine ev_iload_n dModel_pointAt_4 rfl ?_
  refine ev_iconst (3) dModel_pointAt_5 (by decide) ?_
  refine ev_icmp_ge 44 dModel_pointAt_6 (by decide) (fun c1 => ?_) (fun c1 => ?_)
  · have H := H.1 c1
    exact ev_sub [(0, .ref o), (1, .int x1), (2, .int x2), (3, .int x3)] rfl (sModel_pointAt_44 o n sh Rf I L post x1 x2 x3 hok hw H)
  · have H := H.2 c1
    refine ev_aload_n dModel_pointAt_9 rfl ?_
    refine ev_iload_n dModel_pointAt_10 rfl ?_
    refine ev_iload_n dModel_pointAt_11 rfl ?_
    refine ev_iadd dModel_pointAt_12 ?_
    refine ev_callV [.int ((x1 + x2))] [] (B' := (0, 0)) (B'' := (0, 0)) hok mmModel_sign mk_Model_81 (ci := 12) rfl rfl (woModel hw) rfl (Nat.le_of_ble_eq_true rfl) rfl (Nat.le_of_ble_eq_true rfl) dModel_pointAt_13 rfl (by decide) H (fun v τ p2 => ?_)
    obtain ⟨r3, I4, L5, rfl, rfl, H⟩ := p2
    refine ev_callS [.int r3] [] (B' := (0, 0)) (B'' := (0, 0)) hok mmModel_isDigit mk_Model_85 rfl (Nat.le_of_ble_eq_true rfl) rfl (Nat.le_of_ble_eq_true rfl) dModel_pointAt_16 rfl (by decide) H (fun v τ p6 => ?_)
    obtain ⟨r7, I8, L9, rfl, rfl, H⟩ := p6
    refine ev_if_eq 44 dModel_pointAt_19 (by decide) (fun c10 => ?_) (fun c10 => ?_)
    · have H := H.1 c10
      exact ev_sub [(0, .ref o), (1, .int x1), (2, .int x2), (3, .int x3)] rfl (sModel_pointAt_44 o n sh Rf I8 L9 post x1 x2 x3 hok hw H)
    · have H := H.2 c10
      refine ev_bipush (10) dModel_pointAt_22 (by decide) ?_
      refine ev_iload_n dModel_pointAt_24 rfl ?_
      refine ev_imul dModel_pointAt_25 ?_
      refine ev_aload_n dModel_pointAt_26 rfl ?_
      refine ev_iload_n dModel_pointAt_27 rfl ?_
      refine ev_iload_n dModel_pointAt_28 rfl ?_
      refine ev_iadd dModel_pointAt_29 ?_
      refine ev_callV [.int ((x1 + x2))] [.int ((10 * x3))] (B' := (0, 0)) (B'' := (0, 0)) hok mmModel_sign mk_Model_81 (ci := 12) rfl rfl (woModel hw) rfl (Nat.le_of_ble_eq_true rfl) rfl (Nat.le_of_ble_eq_true rfl) dModel_pointAt_30 rfl (by decide) H (fun v τ p11 => ?_)
      obtain ⟨r12, I13, L14, rfl, rfl, H⟩ := p11
      refine ev_iadd dModel_pointAt_33 ?_
      refine ev_bipush (48) dModel_pointAt_34 (by decide) ?_
      refine ev_isub dModel_pointAt_36 ?_
      refine ev_istore_n dModel_pointAt_37 (by decide) ?_
      refine ev_iinc dModel_pointAt_38 rfl (by decide) ?_
      refine ev_goto 4 dModel_pointAt_41 (by decide) ?_
      exact ev_sub [(0, .ref o), (1, .int x1), (2, .int ((x2 + Int32.ofInt 1))), (3, .int ((((10 * x3) + r12) - 48)))] rfl H
def fModel_pointAt_0 (D : va_G) (cA : FieldType → ClassId) (b : Nat) (E : State → Prop) (o : Nat) (n : Nat) (sh : Nat → qC) (Rf : Nat → Nat → Option Nat) (I : Nat → Nat → Int32) (L : Nat → Nat → Int64) (post : Option Value → qS → Prop) (x1 : Int32) : Prop :=
  Ev (qGG D cA b E) mModel_pointAt 1 (0, 0) 4 [(0, .ref o), (1, .int x1), (2, .int 0), (3, .int 0)] [] (n, sh, Rf, I, L) post
set_option maxHeartbeats 4000000 in
set_option maxRecDepth 20000 in
theorem sModel_pointAt_0 {D : va_G} {cA : FieldType → ClassId} {b : Nat} {E : State → Prop} (o : Nat) (n : Nat) (sh : Nat → qC) (Rf : Nat → Nat → Option Nat) (I : Nat → Nat → Int32) (L : Nat → Nat → Int64) (post : Option Value → qS → Prop) (x1 : Int32) (hok : q_ok (qGG D cA b E)) (hw : WfModel (qGG D cA b E) n sh Rf o) (H : fModel_pointAt_0 D cA b E o n sh Rf I L post x1) : Ev (qGG D cA b E) mModel_pointAt 1 (0, 0) 0 [(0, .ref o), (1, .int x1)] [] (n, sh, Rf, I, L) post := by
  unfold fModel_pointAt_0 at H
  refine ev_iconst (0) dModel_pointAt_0 (by decide) ?_
  refine ev_istore_n dModel_pointAt_1 (by decide) ?_
  refine ev_iconst (0) dModel_pointAt_2 (by decide) ?_
  refine ev_istore_n dModel_pointAt_3 (by decide) ?_
  exact ev_sub [(0, .ref o), (1, .int x1), (2, .int 0), (3, .int 0)] rfl H
def fModel_restore_0 (D : va_G) (cA : FieldType → ClassId) (b : Nat) (E : State → Prop) (o : Nat) (n : Nat) (sh : Nat → qC) (Rf : Nat → Nat → Option Nat) (I : Nat → Nat → Int32) (L : Nat → Nat → Int64) (post : Option Value → qS → Prop)  : Prop :=
  ∀ I1 : Nat → Nat → Int32, q_u I o 104 (I o 163) = I1 → Ev (qGG D cA b E) mModel_copy 0 (0, 0) 0 (lv_args 0 [.ref ((o + 81)), .ref ((o + 51)), .int ((I1 o 104))]) [] (n, sh, Rf, I1, L) (fun v τ => ∃ (I4 : Nat → Nat → Int32) (L5 : Nat → Nat → Int64), v = none ∧ τ = (n, sh, Rf, I4, L5) ∧ Ev (qGG D cA b E) mModel_copy 0 (0, 0) 0 (lv_args 0 [.ref ((o + 82)), .ref ((o + 52)), .int ((I4 o 104))]) [] (n, sh, Rf, I4, L5) (fun v τ => ∃ (I8 : Nat → Nat → Int32) (L9 : Nat → Nat → Int64), v = none ∧ τ = (n, sh, Rf, I8, L9) ∧ Ev (qGG D cA b E) mModel_copy 0 (0, 0) 0 (lv_args 0 [.ref ((o + 83)), .ref ((o + 53)), .int ((I8 o 104))]) [] (n, sh, Rf, I8, L9) (fun v τ => ∃ (I12 : Nat → Nat → Int32) (L13 : Nat → Nat → Int64), v = none ∧ τ = (n, sh, Rf, I12, L13) ∧ Ev (qGG D cA b E) mModel_copy 0 (0, 0) 0 (lv_args 0 [.ref ((o + 84)), .ref ((o + 54)), .int ((I12 o 104))]) [] (n, sh, Rf, I12, L13) (fun v τ => ∃ (I16 : Nat → Nat → Int32) (L17 : Nat → Nat → Int64), v = none ∧ τ = (n, sh, Rf, I16, L17) ∧ Ev (qGG D cA b E) mModel_copy 0 (0, 0) 0 (lv_args 0 [.ref ((o + 85)), .ref ((o + 55)), .int ((I16 o 104))]) [] (n, sh, Rf, I16, L17) (fun v τ => ∃ (I20 : Nat → Nat → Int32) (L21 : Nat → Nat → Int64), v = none ∧ τ = (n, sh, Rf, I20, L21) ∧ Ev (qGG D cA b E) mModel_copy 0 (0, 0) 0 (lv_args 0 [.ref ((o + 86)), .ref ((o + 56)), .int ((I20 o 104))]) [] (n, sh, Rf, I20, L21) (fun v τ => ∃ (I24 : Nat → Nat → Int32) (L25 : Nat → Nat → Int64), v = none ∧ τ = (n, sh, Rf, I24, L25) ∧ Ev (qGG D cA b E) mModel_copyTruths 0 (0, 0) 0 (lv_args 0 [.ref ((o + 96)), .ref ((o + 65)), .int ((I24 o 104))]) [] (n, sh, Rf, I24, L25) (fun v τ => ∃ (I28 : Nat → Nat → Int32) (L29 : Nat → Nat → Int64), v = none ∧ τ = (n, sh, Rf, I28, L29) ∧ Ev (qGG D cA b E) mModel_copyTruths 0 (0, 0) 0 (lv_args 0 [.ref ((o + 97)), .ref ((o + 66)), .int ((I28 o 104))]) [] (n, sh, Rf, I28, L29) (fun v τ => ∃ (I32 : Nat → Nat → Int32) (L33 : Nat → Nat → Int64), v = none ∧ τ = (n, sh, Rf, I32, L33) ∧ Ev (qGG D cA b E) mModel_copy 0 (0, 0) 0 (lv_args 0 [.ref ((o + 87)), .ref ((o + 42)), .int 3]) [] (n, sh, Rf, I32, L33) (fun v τ => ∃ (I36 : Nat → Nat → Int32) (L37 : Nat → Nat → Int64), v = none ∧ τ = (n, sh, Rf, I36, L37) ∧ Ev (qGG D cA b E) mModel_copy 0 (0, 0) 0 (lv_args 0 [.ref ((o + 88)), .ref ((o + 44)), .int 3]) [] (n, sh, Rf, I36, L37) (fun v τ => ∃ (I40 : Nat → Nat → Int32) (L41 : Nat → Nat → Int64), v = none ∧ τ = (n, sh, Rf, I40, L41) ∧ Ev (qGG D cA b E) mModel_copy 0 (0, 0) 0 (lv_args 0 [.ref ((o + 89)), .ref ((o + 45)), .int 5]) [] (n, sh, Rf, I40, L41) (fun v τ => ∃ (I44 : Nat → Nat → Int32) (L45 : Nat → Nat → Int64), v = none ∧ τ = (n, sh, Rf, I44, L45) ∧ Ev (qGG D cA b E) mModel_copy 0 (0, 0) 0 (lv_args 0 [.ref ((o + 90)), .ref ((o + 48)), .int 18]) [] (n, sh, Rf, I44, L45) (fun v τ => ∃ (I48 : Nat → Nat → Int32) (L49 : Nat → Nat → Int64), v = none ∧ τ = (n, sh, Rf, I48, L49) ∧ Ev (qGG D cA b E) mModel_copy 0 (0, 0) 0 (lv_args 0 [.ref ((o + 91)), .ref ((o + 49)), .int 6]) [] (n, sh, Rf, I48, L49) (fun v τ => ∃ (I52 : Nat → Nat → Int32) (L53 : Nat → Nat → Int64), v = none ∧ τ = (n, sh, Rf, I52, L53) ∧ Ev (qGG D cA b E) mModel_copyLongs 0 (0, 0) 0 (lv_args 0 [.ref ((o + 98)), .ref ((o + 68)), .int 6]) [] (n, sh, Rf, I52, L53) (fun v τ => ∃ (I56 : Nat → Nat → Int32) (L57 : Nat → Nat → Int64), v = none ∧ τ = (n, sh, Rf, I56, L57) ∧ Ev (qGG D cA b E) mModel_copy 0 (0, 0) 0 (lv_args 0 [.ref ((o + 92)), .ref ((o + 71)), .int 1440]) [] (n, sh, Rf, I56, L57) (fun v τ => ∃ (I60 : Nat → Nat → Int32) (L61 : Nat → Nat → Int64), v = none ∧ τ = (n, sh, Rf, I60, L61) ∧ Ev (qGG D cA b E) mModel_copy 0 (0, 0) 0 (lv_args 0 [.ref ((o + 93)), .ref ((o + 72)), .int 1440]) [] (n, sh, Rf, I60, L61) (fun v τ => ∃ (I64 : Nat → Nat → Int32) (L65 : Nat → Nat → Int64), v = none ∧ τ = (n, sh, Rf, I64, L65) ∧ Ev (qGG D cA b E) mModel_copy 0 (0, 0) 0 (lv_args 0 [.ref ((o + 94)), .ref ((o + 73)), .int 3600]) [] (n, sh, Rf, I64, L65) (fun v τ => ∃ (I68 : Nat → Nat → Int32) (L69 : Nat → Nat → Int64), v = none ∧ τ = (n, sh, Rf, I68, L69) ∧ Ev (qGG D cA b E) mModel_copy 0 (0, 0) 0 (lv_args 0 [.ref ((o + 95)), .ref ((o + 74)), .int 1440]) [] (n, sh, Rf, I68, L69) (fun v τ => ∃ (I72 : Nat → Nat → Int32) (L73 : Nat → Nat → Int64), v = none ∧ τ = (n, sh, Rf, I72, L73) ∧ Ev (qGG D cA b E) mModel_copyLongs 0 (0, 0) 0 (lv_args 0 [.ref ((o + 99)), .ref ((o + 75)), .int 1440]) [] (n, sh, Rf, I72, L73) (fun v τ => ∃ (I76 : Nat → Nat → Int32) (L77 : Nat → Nat → Int64), v = none ∧ τ = (n, sh, Rf, I76, L77) ∧ Ev (qGG D cA b E) mModel_copyLongs 0 (0, 0) 0 (lv_args 0 [.ref ((o + 100)), .ref ((o + 76)), .int 1440]) [] (n, sh, Rf, I76, L77) (fun v τ => ∃ (I80 : Nat → Nat → Int32) (L81 : Nat → Nat → Int64), v = none ∧ τ = (n, sh, Rf, I80, L81) ∧ ∀ L82 : Nat → Nat → Int64, q_u L81 o 112 (L81 (o + 101) 0) = L82 → ∀ L83 : Nat → Nat → Int64, q_u L82 o 113 (L82 (o + 101) 1) = L83 → ∀ L84 : Nat → Nat → Int64, q_u L83 o 114 (L83 (o + 101) 2) = L84 → ∀ L85 : Nat → Nat → Int64, q_u L84 o 115 (L84 (o + 101) 3) = L85 → ∀ L86 : Nat → Nat → Int64, q_u L85 o 116 (L85 (o + 101) 4) = L86 → ∀ L87 : Nat → Nat → Int64, q_u L86 o 117 (L86 (o + 101) 5) = L87 → ∀ L88 : Nat → Nat → Int64, q_u L87 o 118 (L87 (o + 101) 6) = L88 → ∀ L89 : Nat → Nat → Int64, q_u L88 o 119 (L88 (o + 101) 7) = L89 → post none (n, sh, Rf, I80, L89)))))))))))))))))))))
set_option maxHeartbeats 4000000 in
set_option maxRecDepth 20000 in
theorem sModel_restore_0 {D : va_G} {cA : FieldType → ClassId} {b : Nat} {E : State → Prop} (o : Nat) (n : Nat) (sh : Nat → qC) (Rf : Nat → Nat → Option Nat) (I : Nat → Nat → Int32) (L : Nat → Nat → Int64) (post : Option Value → qS → Prop)  (hok : q_ok (qGG D cA b E)) (hw : WfModel (qGG D cA b E) n sh Rf o) (H : fModel_restore_0 D cA b E o n sh Rf I L post ) : Ev (qGG D cA b E) mModel_restore 1 (0, 0) 0 [(0, .ref o)] [] (n, sh, Rf, I, L) post := by
  unfold fModel_restore_0 at H
  refine ev_aload_n dModel_restore_0 rfl ?_
  refine ev_aload_n dModel_restore_1 rfl ?_
  refine ev_getI hok fk_Model_805 (woModel hw) (fun _ _ _ => rfl) dModel_restore_2 ?_
  refine ev_putI hok fk_Model_454 (woModel hw) (fun _ _ _ => rfl) rfl rfl dModel_restore_5 ?_
  generalize eI1 : q_u I o 104 (I o 163) = I1
  have H := H I1 eI1
  refine ev_aload_n dModel_restore_8 rfl ?_
  refine ev_getR hok fk_Model_808 (woModel hw) (fun _ _ _ => rfl) (wrModel_142 hw) dModel_restore_9 ?_
  refine ev_aload_n dModel_restore_12 rfl ?_
  refine ev_getR hok fk_Model_525 (woModel hw) (fun _ _ _ => rfl) (wrModel_84 hw) dModel_restore_13 ?_
  refine ev_aload_n dModel_restore_16 rfl ?_
  refine ev_getI hok fk_Model_454 (woModel hw) (fun _ _ _ => rfl) dModel_restore_17 ?_
  refine ev_callS [.ref ((o + 81)), .ref ((o + 51)), .int ((I1 o 104))] [] (B' := (0, 0)) (B'' := (0, 0)) hok mmModel_copy mk_Model_811 rfl (Nat.le_of_ble_eq_true rfl) rfl (Nat.le_of_ble_eq_true rfl) dModel_restore_20 rfl (by decide) H (fun v τ p2 => ?_)
  obtain ⟨I4, L5, rfl, rfl, H⟩ := p2
  refine ev_aload_n dModel_restore_23 rfl ?_
  refine ev_getR hok fk_Model_815 (woModel hw) (fun _ _ _ => rfl) (wrModel_143 hw) dModel_restore_24 ?_
  refine ev_aload_n dModel_restore_27 rfl ?_
  refine ev_getR hok fk_Model_457 (woModel hw) (fun _ _ _ => rfl) (wrModel_85 hw) dModel_restore_28 ?_
  refine ev_aload_n dModel_restore_31 rfl ?_
  refine ev_getI hok fk_Model_454 (woModel hw) (fun _ _ _ => rfl) dModel_restore_32 ?_
  refine ev_callS [.ref ((o + 82)), .ref ((o + 52)), .int ((I4 o 104))] [] (B' := (0, 0)) (B'' := (0, 0)) hok mmModel_copy mk_Model_811 rfl (Nat.le_of_ble_eq_true rfl) rfl (Nat.le_of_ble_eq_true rfl) dModel_restore_35 rfl (by decide) H (fun v τ p6 => ?_)
  obtain ⟨I8, L9, rfl, rfl, H⟩ := p6
  refine ev_aload_n dModel_restore_38 rfl ?_
  refine ev_getR hok fk_Model_818 (woModel hw) (fun _ _ _ => rfl) (wrModel_144 hw) dModel_restore_39 ?_
  refine ev_aload_n dModel_restore_42 rfl ?_
  refine ev_getR hok fk_Model_463 (woModel hw) (fun _ _ _ => rfl) (wrModel_86 hw) dModel_restore_43 ?_
  refine ev_aload_n dModel_restore_46 rfl ?_
  refine ev_getI hok fk_Model_454 (woModel hw) (fun _ _ _ => rfl) dModel_restore_47 ?_
  refine ev_callS [.ref ((o + 83)), .ref ((o + 53)), .int ((I8 o 104))] [] (B' := (0, 0)) (B'' := (0, 0)) hok mmModel_copy mk_Model_811 rfl (Nat.le_of_ble_eq_true rfl) rfl (Nat.le_of_ble_eq_true rfl) dModel_restore_50 rfl (by decide) H (fun v τ p10 => ?_)
  obtain ⟨I12, L13, rfl, rfl, H⟩ := p10
  refine ev_aload_n dModel_restore_53 rfl ?_
  refine ev_getR hok fk_Model_821 (woModel hw) (fun _ _ _ => rfl) (wrModel_145 hw) dModel_restore_54 ?_
  refine ev_aload_n dModel_restore_57 rfl ?_
  refine ev_getR hok fk_Model_528 (woModel hw) (fun _ _ _ => rfl) (wrModel_87 hw) dModel_restore_58 ?_
  refine ev_aload_n dModel_restore_61 rfl ?_
  refine ev_getI hok fk_Model_454 (woModel hw) (fun _ _ _ => rfl) dModel_restore_62 ?_
  refine ev_callS [.ref ((o + 84)), .ref ((o + 54)), .int ((I12 o 104))] [] (B' := (0, 0)) (B'' := (0, 0)) hok mmModel_copy mk_Model_811 rfl (Nat.le_of_ble_eq_true rfl) rfl (Nat.le_of_ble_eq_true rfl) dModel_restore_65 rfl (by decide) H (fun v τ p14 => ?_)
  obtain ⟨I16, L17, rfl, rfl, H⟩ := p14
  refine ev_aload_n dModel_restore_68 rfl ?_
  refine ev_getR hok fk_Model_824 (woModel hw) (fun _ _ _ => rfl) (wrModel_146 hw) dModel_restore_69 ?_
  refine ev_aload_n dModel_restore_72 rfl ?_
  refine ev_getR hok fk_Model_531 (woModel hw) (fun _ _ _ => rfl) (wrModel_88 hw) dModel_restore_73 ?_
  refine ev_aload_n dModel_restore_76 rfl ?_
  refine ev_getI hok fk_Model_454 (woModel hw) (fun _ _ _ => rfl) dModel_restore_77 ?_
  refine ev_callS [.ref ((o + 85)), .ref ((o + 55)), .int ((I16 o 104))] [] (B' := (0, 0)) (B'' := (0, 0)) hok mmModel_copy mk_Model_811 rfl (Nat.le_of_ble_eq_true rfl) rfl (Nat.le_of_ble_eq_true rfl) dModel_restore_80 rfl (by decide) H (fun v τ p18 => ?_)
  obtain ⟨I20, L21, rfl, rfl, H⟩ := p18
  refine ev_aload_n dModel_restore_83 rfl ?_
  refine ev_getR hok fk_Model_827 (woModel hw) (fun _ _ _ => rfl) (wrModel_147 hw) dModel_restore_84 ?_
  refine ev_aload_n dModel_restore_87 rfl ?_
  refine ev_getR hok fk_Model_447 (woModel hw) (fun _ _ _ => rfl) (wrModel_89 hw) dModel_restore_88 ?_
  refine ev_aload_n dModel_restore_91 rfl ?_
  refine ev_getI hok fk_Model_454 (woModel hw) (fun _ _ _ => rfl) dModel_restore_92 ?_
  refine ev_callS [.ref ((o + 86)), .ref ((o + 56)), .int ((I20 o 104))] [] (B' := (0, 0)) (B'' := (0, 0)) hok mmModel_copy mk_Model_811 rfl (Nat.le_of_ble_eq_true rfl) rfl (Nat.le_of_ble_eq_true rfl) dModel_restore_95 rfl (by decide) H (fun v τ p22 => ?_)
  obtain ⟨I24, L25, rfl, rfl, H⟩ := p22
  refine ev_aload_n dModel_restore_98 rfl ?_
  refine ev_getR hok fk_Model_830 (woModel hw) (fun _ _ _ => rfl) (wrModel_157 hw) dModel_restore_99 ?_
  refine ev_aload_n dModel_restore_102 rfl ?_
  refine ev_getR hok fk_Model_534 (woModel hw) (fun _ _ _ => rfl) (wrModel_98 hw) dModel_restore_103 ?_
  refine ev_aload_n dModel_restore_106 rfl ?_
  refine ev_getI hok fk_Model_454 (woModel hw) (fun _ _ _ => rfl) dModel_restore_107 ?_
  refine ev_callS [.ref ((o + 96)), .ref ((o + 65)), .int ((I24 o 104))] [] (B' := (0, 0)) (B'' := (0, 0)) hok mmModel_copyTruths mk_Model_833 rfl (Nat.le_of_ble_eq_true rfl) rfl (Nat.le_of_ble_eq_true rfl) dModel_restore_110 rfl (by decide) H (fun v τ p26 => ?_)
  obtain ⟨I28, L29, rfl, rfl, H⟩ := p26
  refine ev_aload_n dModel_restore_113 rfl ?_
  refine ev_getR hok fk_Model_837 (woModel hw) (fun _ _ _ => rfl) (wrModel_158 hw) dModel_restore_114 ?_
  refine ev_aload_n dModel_restore_117 rfl ?_
  refine ev_getR hok fk_Model_450 (woModel hw) (fun _ _ _ => rfl) (wrModel_99 hw) dModel_restore_118 ?_
  refine ev_aload_n dModel_restore_121 rfl ?_
  refine ev_getI hok fk_Model_454 (woModel hw) (fun _ _ _ => rfl) dModel_restore_122 ?_
  refine ev_callS [.ref ((o + 97)), .ref ((o + 66)), .int ((I28 o 104))] [] (B' := (0, 0)) (B'' := (0, 0)) hok mmModel_copyTruths mk_Model_833 rfl (Nat.le_of_ble_eq_true rfl) rfl (Nat.le_of_ble_eq_true rfl) dModel_restore_125 rfl (by decide) H (fun v τ p30 => ?_)
  obtain ⟨I32, L33, rfl, rfl, H⟩ := p30
  refine ev_aload_n dModel_restore_128 rfl ?_
  refine ev_getR hok fk_Model_840 (woModel hw) (fun _ _ _ => rfl) (wrModel_148 hw) dModel_restore_129 ?_
  refine ev_aload_n dModel_restore_132 rfl ?_
  refine ev_getR hok fk_Model_513 (woModel hw) (fun _ _ _ => rfl) (wrModel_75 hw) dModel_restore_133 ?_
  refine ev_iconst (3) dModel_restore_136 (by decide) ?_
  refine ev_callS [.ref ((o + 87)), .ref ((o + 42)), .int 3] [] (B' := (0, 0)) (B'' := (0, 0)) hok mmModel_copy mk_Model_811 rfl (Nat.le_of_ble_eq_true rfl) rfl (Nat.le_of_ble_eq_true rfl) dModel_restore_137 rfl (by decide) H (fun v τ p34 => ?_)
  obtain ⟨I36, L37, rfl, rfl, H⟩ := p34
  refine ev_aload_n dModel_restore_140 rfl ?_
  refine ev_getR hok fk_Model_843 (woModel hw) (fun _ _ _ => rfl) (wrModel_149 hw) dModel_restore_141 ?_
  refine ev_aload_n dModel_restore_144 rfl ?_
  refine ev_getR hok fk_Model_469 (woModel hw) (fun _ _ _ => rfl) (wrModel_77 hw) dModel_restore_145 ?_
  refine ev_iconst (3) dModel_restore_148 (by decide) ?_
  refine ev_callS [.ref ((o + 88)), .ref ((o + 44)), .int 3] [] (B' := (0, 0)) (B'' := (0, 0)) hok mmModel_copy mk_Model_811 rfl (Nat.le_of_ble_eq_true rfl) rfl (Nat.le_of_ble_eq_true rfl) dModel_restore_149 rfl (by decide) H (fun v τ p38 => ?_)
  obtain ⟨I40, L41, rfl, rfl, H⟩ := p38
  refine ev_aload_n dModel_restore_152 rfl ?_
  refine ev_getR hok fk_Model_846 (woModel hw) (fun _ _ _ => rfl) (wrModel_150 hw) dModel_restore_153 ?_
  refine ev_aload_n dModel_restore_156 rfl ?_
  refine ev_getR hok fk_Model_474 (woModel hw) (fun _ _ _ => rfl) (wrModel_78 hw) dModel_restore_157 ?_
  refine ev_iconst (5) dModel_restore_160 (by decide) ?_
  refine ev_callS [.ref ((o + 89)), .ref ((o + 45)), .int 5] [] (B' := (0, 0)) (B'' := (0, 0)) hok mmModel_copy mk_Model_811 rfl (Nat.le_of_ble_eq_true rfl) rfl (Nat.le_of_ble_eq_true rfl) dModel_restore_161 rfl (by decide) H (fun v τ p42 => ?_)
  obtain ⟨I44, L45, rfl, rfl, H⟩ := p42
  refine ev_aload_n dModel_restore_164 rfl ?_
  refine ev_getR hok fk_Model_849 (woModel hw) (fun _ _ _ => rfl) (wrModel_151 hw) dModel_restore_165 ?_
  refine ev_aload_n dModel_restore_168 rfl ?_
  refine ev_getR hok fk_Model_584 (woModel hw) (fun _ _ _ => rfl) (wrModel_81 hw) dModel_restore_169 ?_
  refine ev_bipush (18) dModel_restore_172 (by decide) ?_
  refine ev_callS [.ref ((o + 90)), .ref ((o + 48)), .int 18] [] (B' := (0, 0)) (B'' := (0, 0)) hok mmModel_copy mk_Model_811 rfl (Nat.le_of_ble_eq_true rfl) rfl (Nat.le_of_ble_eq_true rfl) dModel_restore_174 rfl (by decide) H (fun v τ p46 => ?_)
  obtain ⟨I48, L49, rfl, rfl, H⟩ := p46
  refine ev_aload_n dModel_restore_177 rfl ?_
  refine ev_getR hok fk_Model_852 (woModel hw) (fun _ _ _ => rfl) (wrModel_152 hw) dModel_restore_178 ?_
  refine ev_aload_n dModel_restore_181 rfl ?_
  refine ev_getR hok fk_Model_522 (woModel hw) (fun _ _ _ => rfl) (wrModel_82 hw) dModel_restore_182 ?_
  refine ev_bipush (6) dModel_restore_185 (by decide) ?_
  refine ev_callS [.ref ((o + 91)), .ref ((o + 49)), .int 6] [] (B' := (0, 0)) (B'' := (0, 0)) hok mmModel_copy mk_Model_811 rfl (Nat.le_of_ble_eq_true rfl) rfl (Nat.le_of_ble_eq_true rfl) dModel_restore_187 rfl (by decide) H (fun v τ p50 => ?_)
  obtain ⟨I52, L53, rfl, rfl, H⟩ := p50
  refine ev_aload_n dModel_restore_190 rfl ?_
  refine ev_getR hok fk_Model_855 (woModel hw) (fun _ _ _ => rfl) (wrModel_159 hw) dModel_restore_191 ?_
  refine ev_aload_n dModel_restore_194 rfl ?_
  refine ev_getR hok fk_Model_578 (woModel hw) (fun _ _ _ => rfl) (wrModel_101 hw) dModel_restore_195 ?_
  refine ev_bipush (6) dModel_restore_198 (by decide) ?_
  refine ev_callS [.ref ((o + 98)), .ref ((o + 68)), .int 6] [] (B' := (0, 0)) (B'' := (0, 0)) hok mmModel_copyLongs mk_Model_858 rfl (Nat.le_of_ble_eq_true rfl) rfl (Nat.le_of_ble_eq_true rfl) dModel_restore_200 rfl (by decide) H (fun v τ p54 => ?_)
  obtain ⟨I56, L57, rfl, rfl, H⟩ := p54
  refine ev_aload_n dModel_restore_203 rfl ?_
  refine ev_getR hok fk_Model_862 (woModel hw) (fun _ _ _ => rfl) (wrModel_153 hw) dModel_restore_204 ?_
  refine ev_aload_n dModel_restore_207 rfl ?_
  refine ev_getR hok fk_Model_745 (woModel hw) (fun _ _ _ => rfl) (wrModel_129 hw) dModel_restore_208 ?_
  refine ev_sipush (1440) dModel_restore_211 (by decide) ?_
  refine ev_callS [.ref ((o + 92)), .ref ((o + 71)), .int 1440] [] (B' := (0, 0)) (B'' := (0, 0)) hok mmModel_copy mk_Model_811 rfl (Nat.le_of_ble_eq_true rfl) rfl (Nat.le_of_ble_eq_true rfl) dModel_restore_214 rfl (by decide) H (fun v τ p58 => ?_)
  obtain ⟨I60, L61, rfl, rfl, H⟩ := p58
  refine ev_aload_n dModel_restore_217 rfl ?_
  refine ev_getR hok fk_Model_865 (woModel hw) (fun _ _ _ => rfl) (wrModel_154 hw) dModel_restore_218 ?_
  refine ev_aload_n dModel_restore_221 rfl ?_
  refine ev_getR hok fk_Model_748 (woModel hw) (fun _ _ _ => rfl) (wrModel_130 hw) dModel_restore_222 ?_
  refine ev_sipush (1440) dModel_restore_225 (by decide) ?_
  refine ev_callS [.ref ((o + 93)), .ref ((o + 72)), .int 1440] [] (B' := (0, 0)) (B'' := (0, 0)) hok mmModel_copy mk_Model_811 rfl (Nat.le_of_ble_eq_true rfl) rfl (Nat.le_of_ble_eq_true rfl) dModel_restore_228 rfl (by decide) H (fun v τ p62 => ?_)
  obtain ⟨I64, L65, rfl, rfl, H⟩ := p62
  refine ev_aload_n dModel_restore_231 rfl ?_
  refine ev_getR hok fk_Model_868 (woModel hw) (fun _ _ _ => rfl) (wrModel_155 hw) dModel_restore_232 ?_
  refine ev_aload_n dModel_restore_235 rfl ?_
  refine ev_getR hok fk_Model_751 (woModel hw) (fun _ _ _ => rfl) (wrModel_131 hw) dModel_restore_236 ?_
  refine ev_sipush (3600) dModel_restore_239 (by decide) ?_
  refine ev_callS [.ref ((o + 94)), .ref ((o + 73)), .int 3600] [] (B' := (0, 0)) (B'' := (0, 0)) hok mmModel_copy mk_Model_811 rfl (Nat.le_of_ble_eq_true rfl) rfl (Nat.le_of_ble_eq_true rfl) dModel_restore_242 rfl (by decide) H (fun v τ p66 => ?_)
  obtain ⟨I68, L69, rfl, rfl, H⟩ := p66
  refine ev_aload_n dModel_restore_245 rfl ?_
  refine ev_getR hok fk_Model_871 (woModel hw) (fun _ _ _ => rfl) (wrModel_156 hw) dModel_restore_246 ?_
  refine ev_aload_n dModel_restore_249 rfl ?_
  refine ev_getR hok fk_Model_757 (woModel hw) (fun _ _ _ => rfl) (wrModel_132 hw) dModel_restore_250 ?_
  refine ev_sipush (1440) dModel_restore_253 (by decide) ?_
  refine ev_callS [.ref ((o + 95)), .ref ((o + 74)), .int 1440] [] (B' := (0, 0)) (B'' := (0, 0)) hok mmModel_copy mk_Model_811 rfl (Nat.le_of_ble_eq_true rfl) rfl (Nat.le_of_ble_eq_true rfl) dModel_restore_256 rfl (by decide) H (fun v τ p70 => ?_)
  obtain ⟨I72, L73, rfl, rfl, H⟩ := p70
  refine ev_aload_n dModel_restore_259 rfl ?_
  refine ev_getR hok fk_Model_874 (woModel hw) (fun _ _ _ => rfl) (wrModel_160 hw) dModel_restore_260 ?_
  refine ev_aload_n dModel_restore_263 rfl ?_
  refine ev_getR hok fk_Model_754 (woModel hw) (fun _ _ _ => rfl) (wrModel_133 hw) dModel_restore_264 ?_
  refine ev_sipush (1440) dModel_restore_267 (by decide) ?_
  refine ev_callS [.ref ((o + 99)), .ref ((o + 75)), .int 1440] [] (B' := (0, 0)) (B'' := (0, 0)) hok mmModel_copyLongs mk_Model_858 rfl (Nat.le_of_ble_eq_true rfl) rfl (Nat.le_of_ble_eq_true rfl) dModel_restore_270 rfl (by decide) H (fun v τ p74 => ?_)
  obtain ⟨I76, L77, rfl, rfl, H⟩ := p74
  refine ev_aload_n dModel_restore_273 rfl ?_
  refine ev_getR hok fk_Model_877 (woModel hw) (fun _ _ _ => rfl) (wrModel_161 hw) dModel_restore_274 ?_
  refine ev_aload_n dModel_restore_277 rfl ?_
  refine ev_getR hok fk_Model_760 (woModel hw) (fun _ _ _ => rfl) (wrModel_134 hw) dModel_restore_278 ?_
  refine ev_sipush (1440) dModel_restore_281 (by decide) ?_
  refine ev_callS [.ref ((o + 100)), .ref ((o + 76)), .int 1440] [] (B' := (0, 0)) (B'' := (0, 0)) hok mmModel_copyLongs mk_Model_858 rfl (Nat.le_of_ble_eq_true rfl) rfl (Nat.le_of_ble_eq_true rfl) dModel_restore_284 rfl (by decide) H (fun v τ p78 => ?_)
  obtain ⟨I80, L81, rfl, rfl, H⟩ := p78
  refine ev_aload_n dModel_restore_287 rfl ?_
  refine ev_aload_n dModel_restore_288 rfl ?_
  refine ev_getR hok fk_Model_880 (woModel hw) (fun _ _ _ => rfl) (wrModel_162 hw) dModel_restore_289 ?_
  refine ev_iconst (0) dModel_restore_292 (by decide) ?_
  refine ev_lald hok (waModel_162 hw) (by unfold vp_in; decide) dModel_restore_293 ?_
  rw [show (0 : Int32).toNatClampNeg = 0 from rfl]
  refine ev_putL hok fk_Model_630 (woModel hw) (fun _ _ _ => rfl) rfl rfl dModel_restore_294 ?_
  generalize eL82 : q_u L81 o 112 (L81 (o + 101) 0) = L82
  have H := H L82 eL82
  refine ev_aload_n dModel_restore_297 rfl ?_
  refine ev_aload_n dModel_restore_298 rfl ?_
  refine ev_getR hok fk_Model_880 (woModel hw) (fun _ _ _ => rfl) (wrModel_162 hw) dModel_restore_299 ?_
  refine ev_iconst (1) dModel_restore_302 (by decide) ?_
  refine ev_lald hok (waModel_162 hw) (by unfold vp_in; decide) dModel_restore_303 ?_
  rw [show (1 : Int32).toNatClampNeg = 1 from rfl]
  refine ev_putL hok fk_Model_597 (woModel hw) (fun _ _ _ => rfl) rfl rfl dModel_restore_304 ?_
  generalize eL83 : q_u L82 o 113 (L82 (o + 101) 1) = L83
  have H := H L83 eL83
  refine ev_aload_n dModel_restore_307 rfl ?_
  refine ev_aload_n dModel_restore_308 rfl ?_
  refine ev_getR hok fk_Model_880 (woModel hw) (fun _ _ _ => rfl) (wrModel_162 hw) dModel_restore_309 ?_
  refine ev_iconst (2) dModel_restore_312 (by decide) ?_
  refine ev_lald hok (waModel_162 hw) (by unfold vp_in; decide) dModel_restore_313 ?_
  rw [show (2 : Int32).toNatClampNeg = 2 from rfl]
  refine ev_putL hok fk_Model_581 (woModel hw) (fun _ _ _ => rfl) rfl rfl dModel_restore_314 ?_
  generalize eL84 : q_u L83 o 114 (L83 (o + 101) 2) = L84
  have H := H L84 eL84
  refine ev_aload_n dModel_restore_317 rfl ?_
  refine ev_aload_n dModel_restore_318 rfl ?_
  refine ev_getR hok fk_Model_880 (woModel hw) (fun _ _ _ => rfl) (wrModel_162 hw) dModel_restore_319 ?_
  refine ev_iconst (3) dModel_restore_322 (by decide) ?_
  refine ev_lald hok (waModel_162 hw) (by unfold vp_in; decide) dModel_restore_323 ?_
  rw [show (3 : Int32).toNatClampNeg = 3 from rfl]
  refine ev_putL hok fk_Model_700 (woModel hw) (fun _ _ _ => rfl) rfl rfl dModel_restore_324 ?_
  generalize eL85 : q_u L84 o 115 (L84 (o + 101) 3) = L85
  have H := H L85 eL85
  refine ev_aload_n dModel_restore_327 rfl ?_
  refine ev_aload_n dModel_restore_328 rfl ?_
  refine ev_getR hok fk_Model_880 (woModel hw) (fun _ _ _ => rfl) (wrModel_162 hw) dModel_restore_329 ?_
  refine ev_iconst (4) dModel_restore_332 (by decide) ?_
  refine ev_lald hok (waModel_162 hw) (by unfold vp_in; decide) dModel_restore_333 ?_
  rw [show (4 : Int32).toNatClampNeg = 4 from rfl]
  refine ev_putL hok fk_Model_703 (woModel hw) (fun _ _ _ => rfl) rfl rfl dModel_restore_334 ?_
  generalize eL86 : q_u L85 o 116 (L85 (o + 101) 4) = L86
  have H := H L86 eL86
  refine ev_aload_n dModel_restore_337 rfl ?_
  refine ev_aload_n dModel_restore_338 rfl ?_
  refine ev_getR hok fk_Model_880 (woModel hw) (fun _ _ _ => rfl) (wrModel_162 hw) dModel_restore_339 ?_
  refine ev_iconst (5) dModel_restore_342 (by decide) ?_
  refine ev_lald hok (waModel_162 hw) (by unfold vp_in; decide) dModel_restore_343 ?_
  rw [show (5 : Int32).toNatClampNeg = 5 from rfl]
  refine ev_putL hok fk_Model_617 (woModel hw) (fun _ _ _ => rfl) rfl rfl dModel_restore_344 ?_
  generalize eL87 : q_u L86 o 117 (L86 (o + 101) 5) = L87
  have H := H L87 eL87
  refine ev_aload_n dModel_restore_347 rfl ?_
  refine ev_aload_n dModel_restore_348 rfl ?_
  refine ev_getR hok fk_Model_880 (woModel hw) (fun _ _ _ => rfl) (wrModel_162 hw) dModel_restore_349 ?_
  refine ev_bipush (6) dModel_restore_352 (by decide) ?_
  refine ev_lald hok (waModel_162 hw) (by unfold vp_in; decide) dModel_restore_354 ?_
  rw [show (6 : Int32).toNatClampNeg = 6 from rfl]
  refine ev_putL hok fk_Model_614 (woModel hw) (fun _ _ _ => rfl) rfl rfl dModel_restore_355 ?_
  generalize eL88 : q_u L87 o 118 (L87 (o + 101) 6) = L88
  have H := H L88 eL88
  refine ev_aload_n dModel_restore_358 rfl ?_
  refine ev_aload_n dModel_restore_359 rfl ?_
  refine ev_getR hok fk_Model_880 (woModel hw) (fun _ _ _ => rfl) (wrModel_162 hw) dModel_restore_360 ?_
  refine ev_bipush (7) dModel_restore_363 (by decide) ?_
  refine ev_lald hok (waModel_162 hw) (by unfold vp_in; decide) dModel_restore_365 ?_
  rw [show (7 : Int32).toNatClampNeg = 7 from rfl]
  refine ev_putL hok fk_Model_611 (woModel hw) (fun _ _ _ => rfl) rfl rfl dModel_restore_366 ?_
  generalize eL89 : q_u L88 o 119 (L88 (o + 101) 7) = L89
  have H := H L89 eL89
  exact ev_vret rfl dModel_restore_369 H
def fModel_send_0 (D : va_G) (cA : FieldType → ClassId) (b : Nat) (E : State → Prop) (o : Nat) (n : Nat) (sh : Nat → qC) (Rf : Nat → Nat → Option Nat) (I : Nat → Nat → Int32) (L : Nat → Nat → Int64) (post : Option Value → qS → Prop) (x1 : Int32) (x2 : Int32) (x3 : Int32) (x4 : Int32) (x5 : Int32) (x6 : Int32) (x7 : Int32) : Prop :=
  vp_in (I o 105) 4000 ∧ ∀ I1 : Nat → Nat → Int32, q_u I (o + 58) ((I o 105) : Int32).toNatClampNeg x1 = I1 → Ev (qGG D cA b E) mModel_monthsOf 0 (0, 0) 0 (lv_args 0 [.int x2]) [] (n, sh, Rf, I1, L) (fun v τ => ∃ (r4 : Int32) (I5 : Nat → Nat → Int32) (L6 : Nat → Nat → Int64), v = some (.int r4) ∧ τ = (n, sh, Rf, I5, L6) ∧ Ev (qGG D cA b E) mModel_atLeastOne 0 (0, 0) 0 (lv_args 0 [.int r4]) [] (n, sh, Rf, I5, L6) (fun v τ => ∃ (r8 : Int32) (I9 : Nat → Nat → Int32) (L10 : Nat → Nat → Int64), v = some (.int r8) ∧ τ = (n, sh, Rf, I9, L10) ∧ vp_in (I1 o 105) 4000 ∧ ∀ I11 : Nat → Nat → Int32, q_u I9 (o + 59) ((I1 o 105) : Int32).toNatClampNeg ((I1 o 57) + r8) = I11 → vp_in (I11 o 105) 4000 ∧ ∀ I13 : Nat → Nat → Int32, q_u I11 (o + 67) ((I11 o 105) : Int32).toNatClampNeg (vp_nar .boolean x3) = I13 → vp_in (I13 o 105) 4000 ∧ ∀ I15 : Nat → Nat → Int32, q_u I13 (o + 60) ((I13 o 105) : Int32).toNatClampNeg x4 = I15 → vp_in (I15 o 105) 4000 ∧ ∀ I17 : Nat → Nat → Int32, q_u I15 (o + 61) ((I15 o 105) : Int32).toNatClampNeg x5 = I17 → vp_in (I17 o 105) 4000 ∧ ∀ I19 : Nat → Nat → Int32, q_u I17 (o + 62) ((I17 o 105) : Int32).toNatClampNeg x6 = I19 → vp_in (I19 o 105) 4000 ∧ ∀ I21 : Nat → Nat → Int32, q_u I19 (o + 63) ((I19 o 105) : Int32).toNatClampNeg x7 = I21 → vp_in (I21 o 105) 4000 ∧ ∀ I23 : Nat → Nat → Int32, q_u I21 (o + 64) ((I21 o 105) : Int32).toNatClampNeg x2 = I23 → ∀ I25 : Nat → Nat → Int32, q_u I23 o 105 ((I23 o 105) + 1) = I25 → post none (n, sh, Rf, I25, L10)))
set_option maxHeartbeats 4000000 in
set_option maxRecDepth 20000 in
theorem sModel_send_0 {D : va_G} {cA : FieldType → ClassId} {b : Nat} {E : State → Prop} (o : Nat) (n : Nat) (sh : Nat → qC) (Rf : Nat → Nat → Option Nat) (I : Nat → Nat → Int32) (L : Nat → Nat → Int64) (post : Option Value → qS → Prop) (x1 : Int32) (x2 : Int32) (x3 : Int32) (x4 : Int32) (x5 : Int32) (x6 : Int32) (x7 : Int32) (hok : q_ok (qGG D cA b E)) (hw : WfModel (qGG D cA b E) n sh Rf o) (H : fModel_send_0 D cA b E o n sh Rf I L post x1 x2 x3 x4 x5 x6 x7) : Ev (qGG D cA b E) mModel_send 1 (0, 0) 0 [(0, .ref o), (1, .int x1), (2, .int x2), (3, .int x3), (4, .int x4), (5, .int x5), (6, .int x6), (7, .int x7)] [] (n, sh, Rf, I, L) post := by
  unfold fModel_send_0 at H
  refine ev_aload_n dModel_send_0 rfl ?_
  refine ev_getR hok fk_Model_545 (woModel hw) (fun _ _ _ => rfl) (wrModel_91 hw) dModel_send_1 ?_
  refine ev_aload_n dModel_send_4 rfl ?_
  refine ev_getI hok fk_Model_548 (woModel hw) (fun _ _ _ => rfl) dModel_send_5 ?_
  refine ev_iload_n dModel_send_8 rfl ?_
  obtain ⟨h2, H⟩ := H
  refine ev_iast hok (waModel_91 hw) h2 dModel_send_9 ?_
  generalize eI1 : q_u I (o + 58) ((I o 105) : Int32).toNatClampNeg x1 = I1
  have H := H I1 eI1
  refine ev_aload_n dModel_send_10 rfl ?_
  refine ev_getR hok fk_Model_551 (woModel hw) (fun _ _ _ => rfl) (wrModel_92 hw) dModel_send_11 ?_
  refine ev_aload_n dModel_send_14 rfl ?_
  refine ev_getI hok fk_Model_548 (woModel hw) (fun _ _ _ => rfl) dModel_send_15 ?_
  refine ev_aload_n dModel_send_18 rfl ?_
  refine ev_getI hok fk_Model_348 (woModel hw) (fun _ _ _ => rfl) dModel_send_19 ?_
  refine ev_iload_n dModel_send_22 rfl ?_
  refine ev_callS [.int x2] [.int ((I1 o 57)), .int ((I1 o 105)), .ref ((o + 59))] (B' := (0, 0)) (B'' := (0, 0)) hok mmModel_monthsOf mk_Model_503 rfl (Nat.le_of_ble_eq_true rfl) rfl (Nat.le_of_ble_eq_true rfl) dModel_send_23 rfl (by decide) H (fun v τ p3 => ?_)
  obtain ⟨r4, I5, L6, rfl, rfl, H⟩ := p3
  refine ev_callS [.int r4] [.int ((I1 o 57)), .int ((I1 o 105)), .ref ((o + 59))] (B' := (0, 0)) (B'' := (0, 0)) hok mmModel_atLeastOne mk_Model_477 rfl (Nat.le_of_ble_eq_true rfl) rfl (Nat.le_of_ble_eq_true rfl) dModel_send_26 rfl (by decide) H (fun v τ p7 => ?_)
  obtain ⟨r8, I9, L10, rfl, rfl, H⟩ := p7
  refine ev_iadd dModel_send_29 ?_
  obtain ⟨h12, H⟩ := H
  refine ev_iast hok (waModel_92 hw) h12 dModel_send_30 ?_
  generalize eI11 : q_u I9 (o + 59) ((I1 o 105) : Int32).toNatClampNeg ((I1 o 57) + r8) = I11
  have H := H I11 eI11
  refine ev_aload_n dModel_send_31 rfl ?_
  refine ev_getR hok fk_Model_554 (woModel hw) (fun _ _ _ => rfl) (wrModel_100 hw) dModel_send_32 ?_
  refine ev_aload_n dModel_send_35 rfl ?_
  refine ev_getI hok fk_Model_548 (woModel hw) (fun _ _ _ => rfl) dModel_send_36 ?_
  refine ev_iload_n dModel_send_39 rfl ?_
  obtain ⟨h14, H⟩ := H
  refine ev_zast hok (waModel_100 hw) h14 dModel_send_40 ?_
  generalize eI13 : q_u I11 (o + 67) ((I11 o 105) : Int32).toNatClampNeg (vp_nar .boolean x3) = I13
  have H := H I13 eI13
  refine ev_aload_n dModel_send_41 rfl ?_
  refine ev_getR hok fk_Model_557 (woModel hw) (fun _ _ _ => rfl) (wrModel_93 hw) dModel_send_42 ?_
  refine ev_aload_n dModel_send_45 rfl ?_
  refine ev_getI hok fk_Model_548 (woModel hw) (fun _ _ _ => rfl) dModel_send_46 ?_
  refine ev_iload dModel_send_49 rfl ?_
  obtain ⟨h16, H⟩ := H
  refine ev_iast hok (waModel_93 hw) h16 dModel_send_51 ?_
  generalize eI15 : q_u I13 (o + 60) ((I13 o 105) : Int32).toNatClampNeg x4 = I15
  have H := H I15 eI15
  refine ev_aload_n dModel_send_52 rfl ?_
  refine ev_getR hok fk_Model_560 (woModel hw) (fun _ _ _ => rfl) (wrModel_94 hw) dModel_send_53 ?_
  refine ev_aload_n dModel_send_56 rfl ?_
  refine ev_getI hok fk_Model_548 (woModel hw) (fun _ _ _ => rfl) dModel_send_57 ?_
  refine ev_iload dModel_send_60 rfl ?_
  obtain ⟨h18, H⟩ := H
  refine ev_iast hok (waModel_94 hw) h18 dModel_send_62 ?_
  generalize eI17 : q_u I15 (o + 61) ((I15 o 105) : Int32).toNatClampNeg x5 = I17
  have H := H I17 eI17
  refine ev_aload_n dModel_send_63 rfl ?_
  refine ev_getR hok fk_Model_563 (woModel hw) (fun _ _ _ => rfl) (wrModel_95 hw) dModel_send_64 ?_
  refine ev_aload_n dModel_send_67 rfl ?_
  refine ev_getI hok fk_Model_548 (woModel hw) (fun _ _ _ => rfl) dModel_send_68 ?_
  refine ev_iload dModel_send_71 rfl ?_
  obtain ⟨h20, H⟩ := H
  refine ev_iast hok (waModel_95 hw) h20 dModel_send_73 ?_
  generalize eI19 : q_u I17 (o + 62) ((I17 o 105) : Int32).toNatClampNeg x6 = I19
  have H := H I19 eI19
  refine ev_aload_n dModel_send_74 rfl ?_
  refine ev_getR hok fk_Model_566 (woModel hw) (fun _ _ _ => rfl) (wrModel_96 hw) dModel_send_75 ?_
  refine ev_aload_n dModel_send_78 rfl ?_
  refine ev_getI hok fk_Model_548 (woModel hw) (fun _ _ _ => rfl) dModel_send_79 ?_
  refine ev_iload dModel_send_82 rfl ?_
  obtain ⟨h22, H⟩ := H
  refine ev_iast hok (waModel_96 hw) h22 dModel_send_84 ?_
  generalize eI21 : q_u I19 (o + 63) ((I19 o 105) : Int32).toNatClampNeg x7 = I21
  have H := H I21 eI21
  refine ev_aload_n dModel_send_85 rfl ?_
  refine ev_getR hok fk_Model_569 (woModel hw) (fun _ _ _ => rfl) (wrModel_97 hw) dModel_send_86 ?_
  refine ev_aload_n dModel_send_89 rfl ?_
  refine ev_getI hok fk_Model_548 (woModel hw) (fun _ _ _ => rfl) dModel_send_90 ?_
  refine ev_iload_n dModel_send_93 rfl ?_
  obtain ⟨h24, H⟩ := H
  refine ev_iast hok (waModel_97 hw) h24 dModel_send_94 ?_
  generalize eI23 : q_u I21 (o + 64) ((I21 o 105) : Int32).toNatClampNeg x2 = I23
  have H := H I23 eI23
  refine ev_aload_n dModel_send_95 rfl ?_
  refine ev_dup dModel_send_96 rfl ?_
  refine ev_getI hok fk_Model_548 (woModel hw) (fun _ _ _ => rfl) dModel_send_97 ?_
  refine ev_iconst (1) dModel_send_100 (by decide) ?_
  refine ev_iadd dModel_send_101 ?_
  refine ev_putI hok fk_Model_548 (woModel hw) (fun _ _ _ => rfl) rfl rfl dModel_send_102 ?_
  generalize eI25 : q_u I23 o 105 ((I23 o 105) + 1) = I25
  have H := H I25 eI25
  exact ev_vret rfl dModel_send_105 H
def fModel_town_31 (D : va_G) (cA : FieldType → ClassId) (b : Nat) (E : State → Prop) (o : Nat) (n : Nat) (sh : Nat → qC) (Rf : Nat → Nat → Option Nat) (I : Nat → Nat → Int32) (L : Nat → Nat → Int64) (post : Option Value → qS → Prop) (x1 : Int32) (x2 : Int32) (x3 : Int32) : Prop :=
  post (some (.int ((-1)))) (n, sh, Rf, I, L)
set_option maxHeartbeats 4000000 in
set_option maxRecDepth 20000 in
theorem sModel_town_31 {D : va_G} {cA : FieldType → ClassId} {b : Nat} {E : State → Prop} (o : Nat) (n : Nat) (sh : Nat → qC) (Rf : Nat → Nat → Option Nat) (I : Nat → Nat → Int32) (L : Nat → Nat → Int64) (post : Option Value → qS → Prop) (x1 : Int32) (x2 : Int32) (x3 : Int32) (hok : q_ok (qGG D cA b E)) (hw : WfModel (qGG D cA b E) n sh Rf o) (H : fModel_town_31 D cA b E o n sh Rf I L post x1 x2 x3) : Ev (qGG D cA b E) mModel_town 1 (0, 0) 31 [(0, .ref o), (1, .int x1), (2, .int x2), (3, .int x3)] [] (n, sh, Rf, I, L) post := by
  unfold fModel_town_31 at H
  refine ev_iconst (-1) dModel_town_31 (by decide) ?_
  refine ev_goto 50 dModel_town_32 (by decide) ?_
  exact ev_iret rfl dModel_town_50 H
def fModel_town_0 (D : va_G) (cA : FieldType → ClassId) (b : Nat) (E : State → Prop) (o : Nat) (n : Nat) (sh : Nat → qC) (Rf : Nat → Nat → Option Nat) (I : Nat → Nat → Int32) (L : Nat → Nat → Int64) (post : Option Value → qS → Prop) (x1 : Int32) (x2 : Int32) (x3 : Int32) : Prop :=
  Ev (qGG D cA b E) mModel_towns 0 (0, 0) 0 (lv_args 0 [.ref o]) [] (n, sh, Rf, I, L) (fun v τ => ∃ (r2 : Int32) (I3 : Nat → Nat → Int32) (L4 : Nat → Nat → Int64), v = some (.int r2) ∧ τ = (n, sh, Rf, I3, L4) ∧ Ev (qGG D cA b E) mModel_isIn 0 (0, 0) 0 (lv_args 0 [.int x1, .int 0, .int ((r2 - 1))]) [] (n, sh, Rf, I3, L4) (fun v τ => ∃ (r6 : Int32) (I7 : Nat → Nat → Int32) (L8 : Nat → Nat → Int64), v = some (.int r6) ∧ τ = (n, sh, Rf, I7, L8) ∧ ((r6 = 0 → fModel_town_31 D cA b E o n sh Rf I7 L8 post x1 x2 x3) ∧ (¬ r6 = 0 → Ev (qGG D cA b E) mModel_isRanMonth 0 (0, 0) 0 (lv_args 0 [.ref o, .int x2]) [] (n, sh, Rf, I7, L8) (fun v τ => ∃ (r11 : Int32) (I12 : Nat → Nat → Int32) (L13 : Nat → Nat → Int64), v = some (.int r11) ∧ τ = (n, sh, Rf, I12, L13) ∧ ((r11 = 0 → fModel_town_31 D cA b E o n sh Rf I12 L13 post x1 x2 x3) ∧ (¬ r11 = 0 → Ev (qGG D cA b E) mModel_isIn 0 (0, 0) 0 (lv_args 0 [.int x3, .int 0, .int 2]) [] (n, sh, Rf, I12, L13) (fun v τ => ∃ (r16 : Int32) (I17 : Nat → Nat → Int32) (L18 : Nat → Nat → Int64), v = some (.int r16) ∧ τ = (n, sh, Rf, I17, L18) ∧ ((¬ r16 = 0 → vp_in (((15 * x2) + (3 * x1)) + x3) 3600 ∧ post (some (.int ((I17 (o + 73) ((((15 * x2) + (3 * x1)) + x3) : Int32).toNatClampNeg)))) (n, sh, Rf, I17, L18)) ∧ (r16 = 0 → fModel_town_31 D cA b E o n sh Rf I17 L18 post x1 x2 x3))))))))))
set_option maxHeartbeats 4000000 in
set_option maxRecDepth 20000 in
theorem sModel_town_0 {D : va_G} {cA : FieldType → ClassId} {b : Nat} {E : State → Prop} (o : Nat) (n : Nat) (sh : Nat → qC) (Rf : Nat → Nat → Option Nat) (I : Nat → Nat → Int32) (L : Nat → Nat → Int64) (post : Option Value → qS → Prop) (x1 : Int32) (x2 : Int32) (x3 : Int32) (hok : q_ok (qGG D cA b E)) (hw : WfModel (qGG D cA b E) n sh Rf o) (H : fModel_town_0 D cA b E o n sh Rf I L post x1 x2 x3) : Ev (qGG D cA b E) mModel_town 1 (0, 0) 0 [(0, .ref o), (1, .int x1), (2, .int x2), (3, .int x3)] [] (n, sh, Rf, I, L) post := by
  unfold fModel_town_0 at H
  refine ev_iload_n dModel_town_0 rfl ?_
  refine ev_iconst (0) dModel_town_1 (by decide) ?_
  refine ev_aload_n dModel_town_2 rfl ?_
  refine ev_callV [] [.int 0, .int x1] (B' := (0, 0)) (B'' := (0, 0)) hok mmModel_towns mk_Model_488 (ci := 12) rfl rfl (woModel hw) rfl (Nat.le_of_ble_eq_true rfl) rfl (Nat.le_of_ble_eq_true rfl) dModel_town_3 rfl (by decide) H (fun v τ p1 => ?_)
  obtain ⟨r2, I3, L4, rfl, rfl, H⟩ := p1
  refine ev_iconst (1) dModel_town_6 (by decide) ?_
  refine ev_isub dModel_town_7 ?_
  refine ev_callS [.int x1, .int 0, .int ((r2 - 1))] [] (B' := (0, 0)) (B'' := (0, 0)) hok mmModel_isIn mk_Model_393 rfl (Nat.le_of_ble_eq_true rfl) rfl (Nat.le_of_ble_eq_true rfl) dModel_town_8 rfl (by decide) H (fun v τ p5 => ?_)
  obtain ⟨r6, I7, L8, rfl, rfl, H⟩ := p5
  refine ev_if_eq 31 dModel_town_11 (by decide) (fun c9 => ?_) (fun c9 => ?_)
  · have H := H.1 c9
    exact ev_sub [(0, .ref o), (1, .int x1), (2, .int x2), (3, .int x3)] rfl (sModel_town_31 o n sh Rf I7 L8 post x1 x2 x3 hok hw H)
  · have H := H.2 c9
    refine ev_aload_n dModel_town_14 rfl ?_
    refine ev_iload_n dModel_town_15 rfl ?_
    refine ev_callV [.int x2] [] (B' := (0, 0)) (B'' := (0, 0)) hok mmModel_isRanMonth mk_Model_780 (ci := 12) rfl rfl (woModel hw) rfl (Nat.le_of_ble_eq_true rfl) rfl (Nat.le_of_ble_eq_true rfl) dModel_town_16 rfl (by decide) H (fun v τ p10 => ?_)
    obtain ⟨r11, I12, L13, rfl, rfl, H⟩ := p10
    refine ev_if_eq 31 dModel_town_19 (by decide) (fun c14 => ?_) (fun c14 => ?_)
    · have H := H.1 c14
      exact ev_sub [(0, .ref o), (1, .int x1), (2, .int x2), (3, .int x3)] rfl (sModel_town_31 o n sh Rf I12 L13 post x1 x2 x3 hok hw H)
    · have H := H.2 c14
      refine ev_iload_n dModel_town_22 rfl ?_
      refine ev_iconst (0) dModel_town_23 (by decide) ?_
      refine ev_iconst (2) dModel_town_24 (by decide) ?_
      refine ev_callS [.int x3, .int 0, .int 2] [] (B' := (0, 0)) (B'' := (0, 0)) hok mmModel_isIn mk_Model_393 rfl (Nat.le_of_ble_eq_true rfl) rfl (Nat.le_of_ble_eq_true rfl) dModel_town_25 rfl (by decide) H (fun v τ p15 => ?_)
      obtain ⟨r16, I17, L18, rfl, rfl, H⟩ := p15
      refine ev_if_ne 35 dModel_town_28 (by decide) (fun c19 => ?_) (fun c19 => ?_)
      · have H := H.1 c19
        refine ev_aload_n dModel_town_35 rfl ?_
        refine ev_getR hok fk_Model_751 (woModel hw) (fun _ _ _ => rfl) (wrModel_131 hw) dModel_town_36 ?_
        refine ev_bipush (15) dModel_town_39 (by decide) ?_
        refine ev_iload_n dModel_town_41 rfl ?_
        refine ev_imul dModel_town_42 ?_
        refine ev_iconst (3) dModel_town_43 (by decide) ?_
        refine ev_iload_n dModel_town_44 rfl ?_
        refine ev_imul dModel_town_45 ?_
        refine ev_iadd dModel_town_46 ?_
        refine ev_iload_n dModel_town_47 rfl ?_
        refine ev_iadd dModel_town_48 ?_
        obtain ⟨h20, H⟩ := H
        refine ev_iald hok (waModel_131 hw) h20 dModel_town_49 ?_
        exact ev_iret rfl dModel_town_50 H
      · have H := H.2 c19
        exact ev_sub [(0, .ref o), (1, .int x1), (2, .int x2), (3, .int x3)] rfl (sModel_town_31 o n sh Rf I17 L18 post x1 x2 x3 hok hw H)
def fModel_waitMany_26 (D : va_G) (cA : FieldType → ClassId) (b : Nat) (E : State → Prop) (o : Nat) (n : Nat) (sh : Nat → qC) (Rf : Nat → Nat → Option Nat) (I : Nat → Nat → Int32) (L : Nat → Nat → Int64) (post : Option Value → qS → Prop) (x1 : Int32) (x2 : Int32) (z0 : Int32) (z1 : Int32) : Prop :=
  Ev (qGG D cA b E) mModel_waitMany 1 (0, 0) 4 [(0, .ref o), (1, .int ((z1 + z0))), (2, .int ((x2 + Int32.ofInt 1)))] [] (n, sh, Rf, I, L) post
set_option maxHeartbeats 4000000 in
set_option maxRecDepth 20000 in
theorem sModel_waitMany_26 {D : va_G} {cA : FieldType → ClassId} {b : Nat} {E : State → Prop} (o : Nat) (n : Nat) (sh : Nat → qC) (Rf : Nat → Nat → Option Nat) (I : Nat → Nat → Int32) (L : Nat → Nat → Int64) (post : Option Value → qS → Prop) (x1 : Int32) (x2 : Int32) (z0 : Int32) (z1 : Int32) (hok : q_ok (qGG D cA b E)) (hw : WfModel (qGG D cA b E) n sh Rf o) (H : fModel_waitMany_26 D cA b E o n sh Rf I L post x1 x2 z0 z1) : Ev (qGG D cA b E) mModel_waitMany 1 (0, 0) 26 [(0, .ref o), (1, .int x1), (2, .int x2)] [.int z0, .int z1] (n, sh, Rf, I, L) post := by
  unfold fModel_waitMany_26 at H
  refine ev_iadd dModel_waitMany_26 ?_
  refine ev_istore_n dModel_waitMany_27 (by decide) ?_
  refine ev_iinc dModel_waitMany_28 rfl (by decide) ?_
  refine ev_goto 4 dModel_waitMany_31 (by decide) ?_
  exact ev_sub [(0, .ref o), (1, .int ((z1 + z0))), (2, .int ((x2 + Int32.ofInt 1)))] rfl H
def fModel_waitMany_4 (D : va_G) (cA : FieldType → ClassId) (b : Nat) (E : State → Prop) (o : Nat) (n : Nat) (sh : Nat → qC) (Rf : Nat → Nat → Option Nat) (I : Nat → Nat → Int32) (L : Nat → Nat → Int64) (post : Option Value → qS → Prop) (x1 : Int32) (x2 : Int32) : Prop :=
  (((I o 104) ≤ x2 → post (some (.int x1)) (n, sh, Rf, I, L)) ∧ (¬ (I o 104) ≤ x2 → Ev (qGG D cA b E) mModel_waits 0 (0, 0) 0 (lv_args 0 [.ref o, .int x2]) [] (n, sh, Rf, I, L) (fun v τ => ∃ (r3 : Int32) (I4 : Nat → Nat → Int32) (L5 : Nat → Nat → Int64), v = some (.int r3) ∧ τ = (n, sh, Rf, I4, L5) ∧ ((r3 = 0 → fModel_waitMany_26 D cA b E o n sh Rf I4 L5 post x1 x2 0 x1) ∧ (¬ r3 = 0 → fModel_waitMany_26 D cA b E o n sh Rf I4 L5 post x1 x2 1 x1)))))
set_option maxHeartbeats 4000000 in
set_option maxRecDepth 20000 in
theorem sModel_waitMany_4 {D : va_G} {cA : FieldType → ClassId} {b : Nat} {E : State → Prop} (o : Nat) (n : Nat) (sh : Nat → qC) (Rf : Nat → Nat → Option Nat) (I : Nat → Nat → Int32) (L : Nat → Nat → Int64) (post : Option Value → qS → Prop) (x1 : Int32) (x2 : Int32) (hok : q_ok (qGG D cA b E)) (hw : WfModel (qGG D cA b E) n sh Rf o) (H : fModel_waitMany_4 D cA b E o n sh Rf I L post x1 x2) : Ev (qGG D cA b E) mModel_waitMany 1 (0, 0) 4 [(0, .ref o), (1, .int x1), (2, .int x2)] [] (n, sh, Rf, I, L) post := by
  unfold fModel_waitMany_4 at H
  refine ev_iload_n dModel_waitMany_4 rfl ?_
  refine ev_aload_n dModel_waitMany_5 rfl ?_
  refine ev_getI hok fk_Model_454 (woModel hw) (fun _ _ _ => rfl) dModel_waitMany_6 ?_
  refine ev_icmp_ge 34 dModel_waitMany_9 (by decide) (fun c1 => ?_) (fun c1 => ?_)
  · have H := H.1 c1
    refine ev_iload_n dModel_waitMany_34 rfl ?_
    exact ev_iret rfl dModel_waitMany_35 H
  · have H := H.2 c1
    refine ev_iload_n dModel_waitMany_12 rfl ?_
    refine ev_aload_n dModel_waitMany_13 rfl ?_
    refine ev_iload_n dModel_waitMany_14 rfl ?_
    refine ev_callV [.int x2] [.int x1] (B' := (0, 0)) (B'' := (0, 0)) hok mmModel_waits mk_Model_460 (ci := 12) rfl rfl (woModel hw) rfl (Nat.le_of_ble_eq_true rfl) rfl (Nat.le_of_ble_eq_true rfl) dModel_waitMany_15 rfl (by decide) H (fun v τ p2 => ?_)
    obtain ⟨r3, I4, L5, rfl, rfl, H⟩ := p2
    refine ev_if_eq 25 dModel_waitMany_18 (by decide) (fun c6 => ?_) (fun c6 => ?_)
    · have H := H.1 c6
      refine ev_iconst (0) dModel_waitMany_25 (by decide) ?_
      exact ev_sub [(0, .ref o), (1, .int x1), (2, .int x2)] rfl (sModel_waitMany_26 o n sh Rf I4 L5 post x1 x2 0 x1 hok hw H)
    · have H := H.2 c6
      refine ev_iconst (1) dModel_waitMany_21 (by decide) ?_
      refine ev_goto 26 dModel_waitMany_22 (by decide) ?_
      exact ev_sub [(0, .ref o), (1, .int x1), (2, .int x2)] rfl (sModel_waitMany_26 o n sh Rf I4 L5 post x1 x2 1 x1 hok hw H)
def fModel_waitMany_0 (D : va_G) (cA : FieldType → ClassId) (b : Nat) (E : State → Prop) (o : Nat) (n : Nat) (sh : Nat → qC) (Rf : Nat → Nat → Option Nat) (I : Nat → Nat → Int32) (L : Nat → Nat → Int64) (post : Option Value → qS → Prop)  : Prop :=
  Ev (qGG D cA b E) mModel_waitMany 1 (0, 0) 4 [(0, .ref o), (1, .int 0), (2, .int 0)] [] (n, sh, Rf, I, L) post
set_option maxHeartbeats 4000000 in
set_option maxRecDepth 20000 in
theorem sModel_waitMany_0 {D : va_G} {cA : FieldType → ClassId} {b : Nat} {E : State → Prop} (o : Nat) (n : Nat) (sh : Nat → qC) (Rf : Nat → Nat → Option Nat) (I : Nat → Nat → Int32) (L : Nat → Nat → Int64) (post : Option Value → qS → Prop)  (hok : q_ok (qGG D cA b E)) (hw : WfModel (qGG D cA b E) n sh Rf o) (H : fModel_waitMany_0 D cA b E o n sh Rf I L post ) : Ev (qGG D cA b E) mModel_waitMany 1 (0, 0) 0 [(0, .ref o)] [] (n, sh, Rf, I, L) post := by
  unfold fModel_waitMany_0 at H
  refine ev_iconst (0) dModel_waitMany_0 (by decide) ?_
  refine ev_istore_n dModel_waitMany_1 (by decide) ?_
  refine ev_iconst (0) dModel_waitMany_2 (by decide) ?_
  refine ev_istore_n dModel_waitMany_3 (by decide) ?_
  exact ev_sub [(0, .ref o), (1, .int 0), (2, .int 0)] rfl H
def fModel_waitingAt_39 (D : va_G) (cA : FieldType → ClassId) (b : Nat) (E : State → Prop) (o : Nat) (n : Nat) (sh : Nat → qC) (Rf : Nat → Nat → Option Nat) (I : Nat → Nat → Int32) (L : Nat → Nat → Int64) (post : Option Value → qS → Prop) (x1 : Int32) (x2 : Int32) (x3 : Int32) : Prop :=
  Ev (qGG D cA b E) mModel_waitingAt 1 (0, 0) 4 [(0, .ref o), (1, .int x1), (2, .int x2), (3, .int ((x3 + Int32.ofInt 1)))] [] (n, sh, Rf, I, L) post
set_option maxHeartbeats 4000000 in
set_option maxRecDepth 20000 in
theorem sModel_waitingAt_39 {D : va_G} {cA : FieldType → ClassId} {b : Nat} {E : State → Prop} (o : Nat) (n : Nat) (sh : Nat → qC) (Rf : Nat → Nat → Option Nat) (I : Nat → Nat → Int32) (L : Nat → Nat → Int64) (post : Option Value → qS → Prop) (x1 : Int32) (x2 : Int32) (x3 : Int32) (hok : q_ok (qGG D cA b E)) (hw : WfModel (qGG D cA b E) n sh Rf o) (H : fModel_waitingAt_39 D cA b E o n sh Rf I L post x1 x2 x3) : Ev (qGG D cA b E) mModel_waitingAt 1 (0, 0) 39 [(0, .ref o), (1, .int x1), (2, .int x2), (3, .int x3)] [] (n, sh, Rf, I, L) post := by
  unfold fModel_waitingAt_39 at H
  refine ev_iinc dModel_waitingAt_39 rfl (by decide) ?_
  refine ev_goto 4 dModel_waitingAt_42 (by decide) ?_
  exact ev_sub [(0, .ref o), (1, .int x1), (2, .int x2), (3, .int ((x3 + Int32.ofInt 1)))] rfl H
def fModel_waitingAt_4 (D : va_G) (cA : FieldType → ClassId) (b : Nat) (E : State → Prop) (o : Nat) (n : Nat) (sh : Nat → qC) (Rf : Nat → Nat → Option Nat) (I : Nat → Nat → Int32) (L : Nat → Nat → Int64) (post : Option Value → qS → Prop) (x1 : Int32) (x2 : Int32) (x3 : Int32) : Prop :=
  (((I o 104) ≤ x3 → post (some (.int x2)) (n, sh, Rf, I, L)) ∧ (¬ (I o 104) ≤ x3 → vp_in x3 2000 ∧ ((¬ (I (o + 52) (x3 : Int32).toNatClampNeg) = x1 → fModel_waitingAt_39 D cA b E o n sh Rf I L post x1 x2 x3) ∧ ((I (o + 52) (x3 : Int32).toNatClampNeg) = x1 → Ev (qGG D cA b E) mModel_waits 0 (0, 0) 0 (lv_args 0 [.ref o, .int x3]) [] (n, sh, Rf, I, L) (fun v τ => ∃ (r5 : Int32) (I6 : Nat → Nat → Int32) (L7 : Nat → Nat → Int64), v = some (.int r5) ∧ τ = (n, sh, Rf, I6, L7) ∧ ((r5 = 0 → fModel_waitingAt_39 D cA b E o n sh Rf I6 L7 post x1 x2 x3) ∧ (¬ r5 = 0 → vp_in x3 2000 ∧ fModel_waitingAt_39 D cA b E o n sh Rf I6 L7 post x1 (x2 + (I6 (o + 53) (x3 : Int32).toNatClampNeg)) x3)))))))
set_option maxHeartbeats 4000000 in
set_option maxRecDepth 20000 in
theorem sModel_waitingAt_4 {D : va_G} {cA : FieldType → ClassId} {b : Nat} {E : State → Prop} (o : Nat) (n : Nat) (sh : Nat → qC) (Rf : Nat → Nat → Option Nat) (I : Nat → Nat → Int32) (L : Nat → Nat → Int64) (post : Option Value → qS → Prop) (x1 : Int32) (x2 : Int32) (x3 : Int32) (hok : q_ok (qGG D cA b E)) (hw : WfModel (qGG D cA b E) n sh Rf o) (H : fModel_waitingAt_4 D cA b E o n sh Rf I L post x1 x2 x3) : Ev (qGG D cA b E) mModel_waitingAt 1 (0, 0) 4 [(0, .ref o), (1, .int x1), (2, .int x2), (3, .int x3)] [] (n, sh, Rf, I, L) post := by
  unfold fModel_waitingAt_4 at H
  refine ev_iload_n dModel_waitingAt_4 rfl ?_
  refine ev_aload_n dModel_waitingAt_5 rfl ?_
  refine ev_getI hok fk_Model_454 (woModel hw) (fun _ _ _ => rfl) dModel_waitingAt_6 ?_
  refine ev_icmp_ge 45 dModel_waitingAt_9 (by decide) (fun c1 => ?_) (fun c1 => ?_)
  · have H := H.1 c1
    refine ev_iload_n dModel_waitingAt_45 rfl ?_
    exact ev_iret rfl dModel_waitingAt_46 H
  · have H := H.2 c1
    refine ev_aload_n dModel_waitingAt_12 rfl ?_
    refine ev_getR hok fk_Model_457 (woModel hw) (fun _ _ _ => rfl) (wrModel_85 hw) dModel_waitingAt_13 ?_
    refine ev_iload_n dModel_waitingAt_16 rfl ?_
    obtain ⟨h2, H⟩ := H
    refine ev_iald hok (waModel_85 hw) h2 dModel_waitingAt_17 ?_
    refine ev_iload_n dModel_waitingAt_18 rfl ?_
    refine ev_icmp_ne 39 dModel_waitingAt_19 (by decide) (fun c3 => ?_) (fun c3 => ?_)
    · have H := H.1 c3
      exact ev_sub [(0, .ref o), (1, .int x1), (2, .int x2), (3, .int x3)] rfl (sModel_waitingAt_39 o n sh Rf I L post x1 x2 x3 hok hw H)
    · have H := H.2 c3
      refine ev_aload_n dModel_waitingAt_22 rfl ?_
      refine ev_iload_n dModel_waitingAt_23 rfl ?_
      refine ev_callV [.int x3] [] (B' := (0, 0)) (B'' := (0, 0)) hok mmModel_waits mk_Model_460 (ci := 12) rfl rfl (woModel hw) rfl (Nat.le_of_ble_eq_true rfl) rfl (Nat.le_of_ble_eq_true rfl) dModel_waitingAt_24 rfl (by decide) H (fun v τ p4 => ?_)
      obtain ⟨r5, I6, L7, rfl, rfl, H⟩ := p4
      refine ev_if_eq 39 dModel_waitingAt_27 (by decide) (fun c8 => ?_) (fun c8 => ?_)
      · have H := H.1 c8
        exact ev_sub [(0, .ref o), (1, .int x1), (2, .int x2), (3, .int x3)] rfl (sModel_waitingAt_39 o n sh Rf I6 L7 post x1 x2 x3 hok hw H)
      · have H := H.2 c8
        refine ev_iload_n dModel_waitingAt_30 rfl ?_
        refine ev_aload_n dModel_waitingAt_31 rfl ?_
        refine ev_getR hok fk_Model_463 (woModel hw) (fun _ _ _ => rfl) (wrModel_86 hw) dModel_waitingAt_32 ?_
        refine ev_iload_n dModel_waitingAt_35 rfl ?_
        obtain ⟨h9, H⟩ := H
        refine ev_iald hok (waModel_86 hw) h9 dModel_waitingAt_36 ?_
        refine ev_iadd dModel_waitingAt_37 ?_
        refine ev_istore_n dModel_waitingAt_38 (by decide) ?_
        exact ev_sub [(0, .ref o), (1, .int x1), (2, .int ((x2 + (I6 (o + 53) (x3 : Int32).toNatClampNeg)))), (3, .int x3)] rfl (sModel_waitingAt_39 o n sh Rf I6 L7 post x1 (x2 + (I6 (o + 53) (x3 : Int32).toNatClampNeg)) x3 hok hw H)
def fModel_waitingAt_0 (D : va_G) (cA : FieldType → ClassId) (b : Nat) (E : State → Prop) (o : Nat) (n : Nat) (sh : Nat → qC) (Rf : Nat → Nat → Option Nat) (I : Nat → Nat → Int32) (L : Nat → Nat → Int64) (post : Option Value → qS → Prop) (x1 : Int32) : Prop :=
  Ev (qGG D cA b E) mModel_waitingAt 1 (0, 0) 4 [(0, .ref o), (1, .int x1), (2, .int 0), (3, .int 0)] [] (n, sh, Rf, I, L) post
set_option maxHeartbeats 4000000 in
set_option maxRecDepth 20000 in
theorem sModel_waitingAt_0 {D : va_G} {cA : FieldType → ClassId} {b : Nat} {E : State → Prop} (o : Nat) (n : Nat) (sh : Nat → qC) (Rf : Nat → Nat → Option Nat) (I : Nat → Nat → Int32) (L : Nat → Nat → Int64) (post : Option Value → qS → Prop) (x1 : Int32) (hok : q_ok (qGG D cA b E)) (hw : WfModel (qGG D cA b E) n sh Rf o) (H : fModel_waitingAt_0 D cA b E o n sh Rf I L post x1) : Ev (qGG D cA b E) mModel_waitingAt 1 (0, 0) 0 [(0, .ref o), (1, .int x1)] [] (n, sh, Rf, I, L) post := by
  unfold fModel_waitingAt_0 at H
  refine ev_iconst (0) dModel_waitingAt_0 (by decide) ?_
  refine ev_istore_n dModel_waitingAt_1 (by decide) ?_
  refine ev_iconst (0) dModel_waitingAt_2 (by decide) ?_
  refine ev_istore_n dModel_waitingAt_3 (by decide) ?_
  exact ev_sub [(0, .ref o), (1, .int x1), (2, .int 0), (3, .int 0)] rfl H
def fModel_wordHere_210 (D : va_G) (cA : FieldType → ClassId) (b : Nat) (E : State → Prop) (o : Nat) (n : Nat) (sh : Nat → qC) (Rf : Nat → Nat → Option Nat) (I : Nat → Nat → Int32) (L : Nat → Nat → Int64) (post : Option Value → qS → Prop) (x1 : Int32) (x2 : Int32) (x3 : Int32) (z0 : Int32) : Prop :=
  ((x3 = 0 → post (some (.int x3)) (n, sh, Rf, I, L)) ∧ (¬ x3 = 0 → ((¬ z0 = 0 → post (some (.int x3)) (n, sh, Rf, I, L)) ∧ (z0 = 0 → ((100 ≤ (I o 46) → post (some (.int x3)) (n, sh, Rf, I, L)) ∧ (¬ 100 ≤ (I o 46) → Ev (qGG D cA b E) mModel_fails 0 (0, 0) 0 (lv_args 0 [.ref o, .int 5, .int ((I o 6))]) [] (n, sh, Rf, I, L) (fun v τ => ∃ (I6 : Nat → Nat → Int32) (L7 : Nat → Nat → Int64), v = none ∧ τ = (n, sh, Rf, I6, L7) ∧ post (some (.int x3)) (n, sh, Rf, I6, L7))))))))
set_option maxHeartbeats 4000000 in
set_option maxRecDepth 20000 in
theorem sModel_wordHere_210 {D : va_G} {cA : FieldType → ClassId} {b : Nat} {E : State → Prop} (o : Nat) (n : Nat) (sh : Nat → qC) (Rf : Nat → Nat → Option Nat) (I : Nat → Nat → Int32) (L : Nat → Nat → Int64) (post : Option Value → qS → Prop) (x1 : Int32) (x2 : Int32) (x3 : Int32) (z0 : Int32) (hok : q_ok (qGG D cA b E)) (hw : WfModel (qGG D cA b E) n sh Rf o) (H : fModel_wordHere_210 D cA b E o n sh Rf I L post x1 x2 x3 z0) : Ev (qGG D cA b E) mModel_wordHere 1 (0, 0) 210 [(0, .ref o), (1, .int x1), (2, .int x2), (3, .int x3)] [.int z0] (n, sh, Rf, I, L) post := by
  unfold fModel_wordHere_210 at H
  refine ev_istore dModel_wordHere_210 (by decide) ?_
  refine ev_iload_n dModel_wordHere_212 rfl ?_
  refine ev_if_eq 239 dModel_wordHere_213 (by decide) (fun c1 => ?_) (fun c1 => ?_)
  · have H := H.1 c1
    refine ev_iload_n dModel_wordHere_239 rfl ?_
    exact ev_iret rfl dModel_wordHere_240 H
  · have H := H.2 c1
    refine ev_iload dModel_wordHere_216 rfl ?_
    refine ev_if_ne 239 dModel_wordHere_218 (by decide) (fun c2 => ?_) (fun c2 => ?_)
    · have H := H.1 c2
      refine ev_iload_n dModel_wordHere_239 rfl ?_
      exact ev_iret rfl dModel_wordHere_240 H
    · have H := H.2 c2
      refine ev_aload_n dModel_wordHere_221 rfl ?_
      refine ev_getI hok fk_Model_291 (woModel hw) (fun _ _ _ => rfl) dModel_wordHere_222 ?_
      refine ev_bipush (100) dModel_wordHere_225 (by decide) ?_
      refine ev_icmp_ge 239 dModel_wordHere_227 (by decide) (fun c3 => ?_) (fun c3 => ?_)
      · have H := H.1 c3
        refine ev_iload_n dModel_wordHere_239 rfl ?_
        exact ev_iret rfl dModel_wordHere_240 H
      · have H := H.2 c3
        refine ev_aload_n dModel_wordHere_230 rfl ?_
        refine ev_iconst (5) dModel_wordHere_231 (by decide) ?_
        refine ev_aload_n dModel_wordHere_232 rfl ?_
        refine ev_getI hok fk_Model_95 (woModel hw) (fun _ _ _ => rfl) dModel_wordHere_233 ?_
        refine ev_callV [.int 5, .int ((I o 6))] [] (B' := (0, 0)) (B'' := (0, 0)) hok mmModel_fails mk_Model_122 (ci := 12) rfl rfl (woModel hw) rfl (Nat.le_of_ble_eq_true rfl) rfl (Nat.le_of_ble_eq_true rfl) dModel_wordHere_236 rfl (by decide) H (fun v τ p4 => ?_)
        obtain ⟨I6, L7, rfl, rfl, H⟩ := p4
        refine ev_iload_n dModel_wordHere_239 rfl ?_
        exact ev_iret rfl dModel_wordHere_240 H
def fModel_wordHere_205 (D : va_G) (cA : FieldType → ClassId) (b : Nat) (E : State → Prop) (o : Nat) (n : Nat) (sh : Nat → qC) (Rf : Nat → Nat → Option Nat) (I : Nat → Nat → Int32) (L : Nat → Nat → Int64) (post : Option Value → qS → Prop) (x1 : Int32) (x2 : Int32) (x3 : Int32) : Prop :=
  fModel_wordHere_210 D cA b E o n sh Rf I L post x1 x2 x3 x1
set_option maxHeartbeats 4000000 in
set_option maxRecDepth 20000 in
theorem sModel_wordHere_205 {D : va_G} {cA : FieldType → ClassId} {b : Nat} {E : State → Prop} (o : Nat) (n : Nat) (sh : Nat → qC) (Rf : Nat → Nat → Option Nat) (I : Nat → Nat → Int32) (L : Nat → Nat → Int64) (post : Option Value → qS → Prop) (x1 : Int32) (x2 : Int32) (x3 : Int32) (hok : q_ok (qGG D cA b E)) (hw : WfModel (qGG D cA b E) n sh Rf o) (H : fModel_wordHere_205 D cA b E o n sh Rf I L post x1 x2 x3) : Ev (qGG D cA b E) mModel_wordHere 1 (0, 0) 205 [(0, .ref o), (1, .int x1), (2, .int x2), (3, .int x3)] [] (n, sh, Rf, I, L) post := by
  unfold fModel_wordHere_205 at H
  refine ev_iload_n dModel_wordHere_205 rfl ?_
  refine ev_goto 210 dModel_wordHere_206 (by decide) ?_
  exact ev_sub [(0, .ref o), (1, .int x1), (2, .int x2), (3, .int x3)] rfl (sModel_wordHere_210 o n sh Rf I L post x1 x2 x3 x1 hok hw H)
def fModel_wordHere_185 (D : va_G) (cA : FieldType → ClassId) (b : Nat) (E : State → Prop) (o : Nat) (n : Nat) (sh : Nat → qC) (Rf : Nat → Nat → Option Nat) (I : Nat → Nat → Int32) (L : Nat → Nat → Int64) (post : Option Value → qS → Prop) (x1 : Int32) (x2 : Int32) (x3 : Int32) : Prop :=
  fModel_wordHere_210 D cA b E o n sh Rf I L post x1 x2 x3 1
set_option maxHeartbeats 4000000 in
set_option maxRecDepth 20000 in
theorem sModel_wordHere_185 {D : va_G} {cA : FieldType → ClassId} {b : Nat} {E : State → Prop} (o : Nat) (n : Nat) (sh : Nat → qC) (Rf : Nat → Nat → Option Nat) (I : Nat → Nat → Int32) (L : Nat → Nat → Int64) (post : Option Value → qS → Prop) (x1 : Int32) (x2 : Int32) (x3 : Int32) (hok : q_ok (qGG D cA b E)) (hw : WfModel (qGG D cA b E) n sh Rf o) (H : fModel_wordHere_185 D cA b E o n sh Rf I L post x1 x2 x3) : Ev (qGG D cA b E) mModel_wordHere 1 (0, 0) 185 [(0, .ref o), (1, .int x1), (2, .int x2), (3, .int x3)] [] (n, sh, Rf, I, L) post := by
  unfold fModel_wordHere_185 at H
  refine ev_iconst (1) dModel_wordHere_185 (by decide) ?_
  refine ev_goto 210 dModel_wordHere_186 (by decide) ?_
  exact ev_sub [(0, .ref o), (1, .int x1), (2, .int x2), (3, .int x3)] rfl (sModel_wordHere_210 o n sh Rf I L post x1 x2 x3 1 hok hw H)
def fModel_wordHere_170 (D : va_G) (cA : FieldType → ClassId) (b : Nat) (E : State → Prop) (o : Nat) (n : Nat) (sh : Nat → qC) (Rf : Nat → Nat → Option Nat) (I : Nat → Nat → Int32) (L : Nat → Nat → Int64) (post : Option Value → qS → Prop) (x1 : Int32) (x2 : Int32) (z0 : Int32) : Prop :=
  ((¬ z0 = 68 → ((z0 = 115 → fModel_wordHere_205 D cA b E o n sh Rf I L post x1 x2 z0) ∧ (¬ z0 = 115 → ((¬ z0 = 110 → fModel_wordHere_210 D cA b E o n sh Rf I L post x1 x2 z0 x2) ∧ (z0 = 110 → fModel_wordHere_205 D cA b E o n sh Rf I L post x1 x2 z0))))) ∧ (z0 = 68 → ((¬ x1 = 0 → fModel_wordHere_185 D cA b E o n sh Rf I L post x1 x2 z0) ∧ (x1 = 0 → ((x2 = 0 → fModel_wordHere_210 D cA b E o n sh Rf I L post x1 x2 z0 0) ∧ (¬ x2 = 0 → fModel_wordHere_185 D cA b E o n sh Rf I L post x1 x2 z0))))))
set_option maxHeartbeats 4000000 in
set_option maxRecDepth 20000 in
theorem sModel_wordHere_170 {D : va_G} {cA : FieldType → ClassId} {b : Nat} {E : State → Prop} (o : Nat) (n : Nat) (sh : Nat → qC) (Rf : Nat → Nat → Option Nat) (I : Nat → Nat → Int32) (L : Nat → Nat → Int64) (post : Option Value → qS → Prop) (x1 : Int32) (x2 : Int32) (z0 : Int32) (hok : q_ok (qGG D cA b E)) (hw : WfModel (qGG D cA b E) n sh Rf o) (H : fModel_wordHere_170 D cA b E o n sh Rf I L post x1 x2 z0) : Ev (qGG D cA b E) mModel_wordHere 1 (0, 0) 170 [(0, .ref o), (1, .int x1), (2, .int x2)] [.int z0] (n, sh, Rf, I, L) post := by
  unfold fModel_wordHere_170 at H
  refine ev_istore_n dModel_wordHere_170 (by decide) ?_
  refine ev_iload_n dModel_wordHere_171 rfl ?_
  refine ev_bipush (68) dModel_wordHere_172 (by decide) ?_
  refine ev_icmp_ne 193 dModel_wordHere_174 (by decide) (fun c1 => ?_) (fun c1 => ?_)
  · have H := H.1 c1
    refine ev_iload_n dModel_wordHere_193 rfl ?_
    refine ev_bipush (115) dModel_wordHere_194 (by decide) ?_
    refine ev_icmp_eq 205 dModel_wordHere_196 (by decide) (fun c2 => ?_) (fun c2 => ?_)
    · have H := H.1 c2
      exact ev_sub [(0, .ref o), (1, .int x1), (2, .int x2), (3, .int z0)] rfl (sModel_wordHere_205 o n sh Rf I L post x1 x2 z0 hok hw H)
    · have H := H.2 c2
      refine ev_iload_n dModel_wordHere_199 rfl ?_
      refine ev_bipush (110) dModel_wordHere_200 (by decide) ?_
      refine ev_icmp_ne 209 dModel_wordHere_202 (by decide) (fun c3 => ?_) (fun c3 => ?_)
      · have H := H.1 c3
        refine ev_iload_n dModel_wordHere_209 rfl ?_
        exact ev_sub [(0, .ref o), (1, .int x1), (2, .int x2), (3, .int z0)] rfl (sModel_wordHere_210 o n sh Rf I L post x1 x2 z0 x2 hok hw H)
      · have H := H.2 c3
        exact ev_sub [(0, .ref o), (1, .int x1), (2, .int x2), (3, .int z0)] rfl (sModel_wordHere_205 o n sh Rf I L post x1 x2 z0 hok hw H)
  · have H := H.2 c1
    refine ev_iload_n dModel_wordHere_177 rfl ?_
    refine ev_if_ne 185 dModel_wordHere_178 (by decide) (fun c4 => ?_) (fun c4 => ?_)
    · have H := H.1 c4
      exact ev_sub [(0, .ref o), (1, .int x1), (2, .int x2), (3, .int z0)] rfl (sModel_wordHere_185 o n sh Rf I L post x1 x2 z0 hok hw H)
    · have H := H.2 c4
      refine ev_iload_n dModel_wordHere_181 rfl ?_
      refine ev_if_eq 189 dModel_wordHere_182 (by decide) (fun c5 => ?_) (fun c5 => ?_)
      · have H := H.1 c5
        refine ev_iconst (0) dModel_wordHere_189 (by decide) ?_
        refine ev_goto 210 dModel_wordHere_190 (by decide) ?_
        exact ev_sub [(0, .ref o), (1, .int x1), (2, .int x2), (3, .int z0)] rfl (sModel_wordHere_210 o n sh Rf I L post x1 x2 z0 0 hok hw H)
      · have H := H.2 c5
        exact ev_sub [(0, .ref o), (1, .int x1), (2, .int x2), (3, .int z0)] rfl (sModel_wordHere_185 o n sh Rf I L post x1 x2 z0 hok hw H)
def fModel_wordHere_78 (D : va_G) (cA : FieldType → ClassId) (b : Nat) (E : State → Prop) (o : Nat) (n : Nat) (sh : Nat → qC) (Rf : Nat → Nat → Option Nat) (I : Nat → Nat → Int32) (L : Nat → Nat → Int64) (post : Option Value → qS → Prop) (x1 : Int32) (z0 : Int32) : Prop :=
  Ev (qGG D cA b E) mModel_isWord 0 (0, 0) 0 (lv_args 0 [.ref o, .long 495874699877]) [] (n, sh, Rf, I, L) (fun v τ => ∃ (r2 : Int32) (I3 : Nat → Nat → Int32) (L4 : Nat → Nat → Int64), v = some (.int r2) ∧ τ = (n, sh, Rf, I3, L4) ∧ ((r2 = 0 → Ev (qGG D cA b E) mModel_isWord 0 (0, 0) 0 (lv_args 0 [.ref o, .long 1852138852]) [] (n, sh, Rf, I3, L4) (fun v τ => ∃ (r7 : Int32) (I8 : Nat → Nat → Int32) (L9 : Nat → Nat → Int64), v = some (.int r7) ∧ τ = (n, sh, Rf, I8, L9) ∧ ((r7 = 0 → Ev (qGG D cA b E) mModel_isWord 0 (0, 0) 0 (lv_args 0 [.ref o, .long 1684109683]) [] (n, sh, Rf, I8, L9) (fun v τ => ∃ (r12 : Int32) (I13 : Nat → Nat → Int32) (L14 : Nat → Nat → Int64), v = some (.int r12) ∧ τ = (n, sh, Rf, I13, L14) ∧ ((r12 = 0 → Ev (qGG D cA b E) mModel_isWord 0 (0, 0) 0 (lv_args 0 [.ref o, .long 6383461]) [] (n, sh, Rf, I13, L14) (fun v τ => ∃ (r17 : Int32) (I18 : Nat → Nat → Int32) (L19 : Nat → Nat → Int64), v = some (.int r17) ∧ τ = (n, sh, Rf, I18, L19) ∧ ((r17 = 0 → Ev (qGG D cA b E) mModel_isWord 0 (0, 0) 0 (lv_args 0 [.ref o, .long 495555144563]) [] (n, sh, Rf, I18, L19) (fun v τ => ∃ (r22 : Int32) (I23 : Nat → Nat → Int32) (L24 : Nat → Nat → Int64), v = some (.int r22) ∧ τ = (n, sh, Rf, I23, L24) ∧ ((r22 = 0 → Ev (qGG D cA b E) mModel_isWord 0 (0, 0) 0 (lv_args 0 [.ref o, .long 108230850603124]) [] (n, sh, Rf, I23, L24) (fun v τ => ∃ (r27 : Int32) (I28 : Nat → Nat → Int32) (L29 : Nat → Nat → Int64), v = some (.int r27) ∧ τ = (n, sh, Rf, I28, L29) ∧ ((r27 = 0 → fModel_wordHere_170 D cA b E o n sh Rf I28 L29 post x1 z0 0) ∧ (¬ r27 = 0 → fModel_wordHere_170 D cA b E o n sh Rf I28 L29 post x1 z0 98)))) ∧ (¬ r22 = 0 → fModel_wordHere_170 D cA b E o n sh Rf I23 L24 post x1 z0 107)))) ∧ (¬ r17 = 0 → fModel_wordHere_170 D cA b E o n sh Rf I18 L19 post x1 z0 97)))) ∧ (¬ r12 = 0 → fModel_wordHere_170 D cA b E o n sh Rf I13 L14 post x1 z0 68)))) ∧ (¬ r7 = 0 → fModel_wordHere_170 D cA b E o n sh Rf I8 L9 post x1 z0 110)))) ∧ (¬ r2 = 0 → fModel_wordHere_170 D cA b E o n sh Rf I3 L4 post x1 z0 115)))
set_option maxHeartbeats 4000000 in
set_option maxRecDepth 20000 in
theorem sModel_wordHere_78 {D : va_G} {cA : FieldType → ClassId} {b : Nat} {E : State → Prop} (o : Nat) (n : Nat) (sh : Nat → qC) (Rf : Nat → Nat → Option Nat) (I : Nat → Nat → Int32) (L : Nat → Nat → Int64) (post : Option Value → qS → Prop) (x1 : Int32) (z0 : Int32) (hok : q_ok (qGG D cA b E)) (hw : WfModel (qGG D cA b E) n sh Rf o) (H : fModel_wordHere_78 D cA b E o n sh Rf I L post x1 z0) : Ev (qGG D cA b E) mModel_wordHere 1 (0, 0) 78 [(0, .ref o), (1, .int x1)] [.int z0] (n, sh, Rf, I, L) post := by
  unfold fModel_wordHere_78 at H
  refine ev_istore_n dModel_wordHere_78 (by decide) ?_
  refine ev_aload_n dModel_wordHere_79 rfl ?_
  refine ev_ldc2 (495874699877) dModel_wordHere_80 (q_t6 236 (by decide +kernel) rfl) ?_
  refine ev_callV [.long 495874699877] [] (B' := (0, 0)) (B'' := (0, 0)) hok mmModel_isWord mk_Model_178 (ci := 12) rfl rfl (woModel hw) rfl (Nat.le_of_ble_eq_true rfl) rfl (Nat.le_of_ble_eq_true rfl) dModel_wordHere_83 rfl (by decide) H (fun v τ p1 => ?_)
  obtain ⟨r2, I3, L4, rfl, rfl, H⟩ := p1
  refine ev_if_eq 94 dModel_wordHere_86 (by decide) (fun c5 => ?_) (fun c5 => ?_)
  · have H := H.1 c5
    refine ev_aload_n dModel_wordHere_94 rfl ?_
    refine ev_ldc2 (1852138852) dModel_wordHere_95 (q_t7 17 (by decide +kernel) rfl) ?_
    refine ev_callV [.long 1852138852] [] (B' := (0, 0)) (B'' := (0, 0)) hok mmModel_isWord mk_Model_178 (ci := 12) rfl rfl (woModel hw) rfl (Nat.le_of_ble_eq_true rfl) rfl (Nat.le_of_ble_eq_true rfl) dModel_wordHere_98 rfl (by decide) H (fun v τ p6 => ?_)
    obtain ⟨r7, I8, L9, rfl, rfl, H⟩ := p6
    refine ev_if_eq 109 dModel_wordHere_101 (by decide) (fun c10 => ?_) (fun c10 => ?_)
    · have H := H.1 c10
      refine ev_aload_n dModel_wordHere_109 rfl ?_
      refine ev_ldc2 (1684109683) dModel_wordHere_110 (q_t7 18 (by decide +kernel) rfl) ?_
      refine ev_callV [.long 1684109683] [] (B' := (0, 0)) (B'' := (0, 0)) hok mmModel_isWord mk_Model_178 (ci := 12) rfl rfl (woModel hw) rfl (Nat.le_of_ble_eq_true rfl) rfl (Nat.le_of_ble_eq_true rfl) dModel_wordHere_113 rfl (by decide) H (fun v τ p11 => ?_)
      obtain ⟨r12, I13, L14, rfl, rfl, H⟩ := p11
      refine ev_if_eq 124 dModel_wordHere_116 (by decide) (fun c15 => ?_) (fun c15 => ?_)
      · have H := H.1 c15
        refine ev_aload_n dModel_wordHere_124 rfl ?_
        refine ev_ldc2 (6383461) dModel_wordHere_125 (q_t7 20 (by decide +kernel) rfl) ?_
        refine ev_callV [.long 6383461] [] (B' := (0, 0)) (B'' := (0, 0)) hok mmModel_isWord mk_Model_178 (ci := 12) rfl rfl (woModel hw) rfl (Nat.le_of_ble_eq_true rfl) rfl (Nat.le_of_ble_eq_true rfl) dModel_wordHere_128 rfl (by decide) H (fun v τ p16 => ?_)
        obtain ⟨r17, I18, L19, rfl, rfl, H⟩ := p16
        refine ev_if_eq 139 dModel_wordHere_131 (by decide) (fun c20 => ?_) (fun c20 => ?_)
        · have H := H.1 c20
          refine ev_aload_n dModel_wordHere_139 rfl ?_
          refine ev_ldc2 (495555144563) dModel_wordHere_140 (q_t7 21 (by decide +kernel) rfl) ?_
          refine ev_callV [.long 495555144563] [] (B' := (0, 0)) (B'' := (0, 0)) hok mmModel_isWord mk_Model_178 (ci := 12) rfl rfl (woModel hw) rfl (Nat.le_of_ble_eq_true rfl) rfl (Nat.le_of_ble_eq_true rfl) dModel_wordHere_143 rfl (by decide) H (fun v τ p21 => ?_)
          obtain ⟨r22, I23, L24, rfl, rfl, H⟩ := p21
          refine ev_if_eq 154 dModel_wordHere_146 (by decide) (fun c25 => ?_) (fun c25 => ?_)
          · have H := H.1 c25
            refine ev_aload_n dModel_wordHere_154 rfl ?_
            refine ev_ldc2 (108230850603124) dModel_wordHere_155 (q_t7 22 (by decide +kernel) rfl) ?_
            refine ev_callV [.long 108230850603124] [] (B' := (0, 0)) (B'' := (0, 0)) hok mmModel_isWord mk_Model_178 (ci := 12) rfl rfl (woModel hw) rfl (Nat.le_of_ble_eq_true rfl) rfl (Nat.le_of_ble_eq_true rfl) dModel_wordHere_158 rfl (by decide) H (fun v τ p26 => ?_)
            obtain ⟨r27, I28, L29, rfl, rfl, H⟩ := p26
            refine ev_if_eq 169 dModel_wordHere_161 (by decide) (fun c30 => ?_) (fun c30 => ?_)
            · have H := H.1 c30
              refine ev_iconst (0) dModel_wordHere_169 (by decide) ?_
              exact ev_sub [(0, .ref o), (1, .int x1), (2, .int z0)] rfl (sModel_wordHere_170 o n sh Rf I28 L29 post x1 z0 0 hok hw H)
            · have H := H.2 c30
              refine ev_bipush (98) dModel_wordHere_164 (by decide) ?_
              refine ev_goto 170 dModel_wordHere_166 (by decide) ?_
              exact ev_sub [(0, .ref o), (1, .int x1), (2, .int z0)] rfl (sModel_wordHere_170 o n sh Rf I28 L29 post x1 z0 98 hok hw H)
          · have H := H.2 c25
            refine ev_bipush (107) dModel_wordHere_149 (by decide) ?_
            refine ev_goto 170 dModel_wordHere_151 (by decide) ?_
            exact ev_sub [(0, .ref o), (1, .int x1), (2, .int z0)] rfl (sModel_wordHere_170 o n sh Rf I23 L24 post x1 z0 107 hok hw H)
        · have H := H.2 c20
          refine ev_bipush (97) dModel_wordHere_134 (by decide) ?_
          refine ev_goto 170 dModel_wordHere_136 (by decide) ?_
          exact ev_sub [(0, .ref o), (1, .int x1), (2, .int z0)] rfl (sModel_wordHere_170 o n sh Rf I18 L19 post x1 z0 97 hok hw H)
      · have H := H.2 c15
        refine ev_bipush (68) dModel_wordHere_119 (by decide) ?_
        refine ev_goto 170 dModel_wordHere_121 (by decide) ?_
        exact ev_sub [(0, .ref o), (1, .int x1), (2, .int z0)] rfl (sModel_wordHere_170 o n sh Rf I13 L14 post x1 z0 68 hok hw H)
    · have H := H.2 c10
      refine ev_bipush (110) dModel_wordHere_104 (by decide) ?_
      refine ev_goto 170 dModel_wordHere_106 (by decide) ?_
      exact ev_sub [(0, .ref o), (1, .int x1), (2, .int z0)] rfl (sModel_wordHere_170 o n sh Rf I8 L9 post x1 z0 110 hok hw H)
  · have H := H.2 c5
    refine ev_bipush (115) dModel_wordHere_89 (by decide) ?_
    refine ev_goto 170 dModel_wordHere_91 (by decide) ?_
    exact ev_sub [(0, .ref o), (1, .int x1), (2, .int z0)] rfl (sModel_wordHere_170 o n sh Rf I3 L4 post x1 z0 115 hok hw H)
def fModel_wordHere_64 (D : va_G) (cA : FieldType → ClassId) (b : Nat) (E : State → Prop) (o : Nat) (n : Nat) (sh : Nat → qC) (Rf : Nat → Nat → Option Nat) (I : Nat → Nat → Int32) (L : Nat → Nat → Int64) (post : Option Value → qS → Prop) (z0 : Int32) : Prop :=
  (((I o 49) < 5 → fModel_wordHere_78 D cA b E o n sh Rf I L post z0 0) ∧ (¬ (I o 49) < 5 → fModel_wordHere_78 D cA b E o n sh Rf I L post z0 1))
set_option maxHeartbeats 4000000 in
set_option maxRecDepth 20000 in
theorem sModel_wordHere_64 {D : va_G} {cA : FieldType → ClassId} {b : Nat} {E : State → Prop} (o : Nat) (n : Nat) (sh : Nat → qC) (Rf : Nat → Nat → Option Nat) (I : Nat → Nat → Int32) (L : Nat → Nat → Int64) (post : Option Value → qS → Prop) (z0 : Int32) (hok : q_ok (qGG D cA b E)) (hw : WfModel (qGG D cA b E) n sh Rf o) (H : fModel_wordHere_64 D cA b E o n sh Rf I L post z0) : Ev (qGG D cA b E) mModel_wordHere 1 (0, 0) 64 [(0, .ref o)] [.int z0] (n, sh, Rf, I, L) post := by
  unfold fModel_wordHere_64 at H
  refine ev_istore_n dModel_wordHere_64 (by decide) ?_
  refine ev_aload_n dModel_wordHere_65 rfl ?_
  refine ev_getI hok fk_Model_309 (woModel hw) (fun _ _ _ => rfl) dModel_wordHere_66 ?_
  refine ev_iconst (5) dModel_wordHere_69 (by decide) ?_
  refine ev_icmp_lt 77 dModel_wordHere_70 (by decide) (fun c1 => ?_) (fun c1 => ?_)
  · have H := H.1 c1
    refine ev_iconst (0) dModel_wordHere_77 (by decide) ?_
    exact ev_sub [(0, .ref o), (1, .int z0)] rfl (sModel_wordHere_78 o n sh Rf I L post z0 0 hok hw H)
  · have H := H.2 c1
    refine ev_iconst (1) dModel_wordHere_73 (by decide) ?_
    refine ev_goto 78 dModel_wordHere_74 (by decide) ?_
    exact ev_sub [(0, .ref o), (1, .int z0)] rfl (sModel_wordHere_78 o n sh Rf I L post z0 1 hok hw H)
def fModel_wordHere_0 (D : va_G) (cA : FieldType → ClassId) (b : Nat) (E : State → Prop) (o : Nat) (n : Nat) (sh : Nat → qC) (Rf : Nat → Nat → Option Nat) (I : Nat → Nat → Int32) (L : Nat → Nat → Int64) (post : Option Value → qS → Prop)  : Prop :=
  Ev (qGG D cA b E) mModel_isWord 0 (0, 0) 0 (lv_args 0 [.ref o, .long 2036687218]) [] (n, sh, Rf, I, L) (fun v τ => ∃ (r2 : Int32) (I3 : Nat → Nat → Int32) (L4 : Nat → Nat → Int64), v = some (.int r2) ∧ τ = (n, sh, Rf, I3, L4) ∧ ((r2 = 0 → Ev (qGG D cA b E) mModel_isWord 0 (0, 0) 0 (lv_args 0 [.ref o, .long 470020945000]) [] (n, sh, Rf, I3, L4) (fun v τ => ∃ (r7 : Int32) (I8 : Nat → Nat → Int32) (L9 : Nat → Nat → Int64), v = some (.int r7) ∧ τ = (n, sh, Rf, I8, L9) ∧ ((r7 = 0 → Ev (qGG D cA b E) mModel_isWord 0 (0, 0) 0 (lv_args 0 [.ref o, .long 33602627781095015]) [] (n, sh, Rf, I8, L9) (fun v τ => ∃ (r12 : Int32) (I13 : Nat → Nat → Int32) (L14 : Nat → Nat → Int64), v = some (.int r12) ∧ τ = (n, sh, Rf, I13, L14) ∧ ((r12 = 0 → Ev (qGG D cA b E) mModel_isWord 0 (0, 0) 0 (lv_args 0 [.ref o, .long 1835099237]) [] (n, sh, Rf, I13, L14) (fun v τ => ∃ (r17 : Int32) (I18 : Nat → Nat → Int32) (L19 : Nat → Nat → Int64), v = some (.int r17) ∧ τ = (n, sh, Rf, I18, L19) ∧ ((r17 = 0 → ((¬ (I18 o 49) = 0 → fModel_wordHere_64 D cA b E o n sh Rf I18 L19 post 0) ∧ ((I18 o 49) = 0 → fModel_wordHere_64 D cA b E o n sh Rf I18 L19 post 1))) ∧ (¬ r17 = 0 → post (some (.int 100)) (n, sh, Rf, I18, L19))))) ∧ (¬ r12 = 0 → post (some (.int 119)) (n, sh, Rf, I13, L14))))) ∧ (¬ r7 = 0 → post (some (.int 109)) (n, sh, Rf, I8, L9))))) ∧ (¬ r2 = 0 → post (some (.int 121)) (n, sh, Rf, I3, L4))))
set_option maxHeartbeats 4000000 in
set_option maxRecDepth 20000 in
theorem sModel_wordHere_0 {D : va_G} {cA : FieldType → ClassId} {b : Nat} {E : State → Prop} (o : Nat) (n : Nat) (sh : Nat → qC) (Rf : Nat → Nat → Option Nat) (I : Nat → Nat → Int32) (L : Nat → Nat → Int64) (post : Option Value → qS → Prop)  (hok : q_ok (qGG D cA b E)) (hw : WfModel (qGG D cA b E) n sh Rf o) (H : fModel_wordHere_0 D cA b E o n sh Rf I L post ) : Ev (qGG D cA b E) mModel_wordHere 1 (0, 0) 0 [(0, .ref o)] [] (n, sh, Rf, I, L) post := by
  unfold fModel_wordHere_0 at H
  refine ev_aload_n dModel_wordHere_0 rfl ?_
  refine ev_ldc2 (2036687218) dModel_wordHere_1 (q_t7 15 (by decide +kernel) rfl) ?_
  refine ev_callV [.long 2036687218] [] (B' := (0, 0)) (B'' := (0, 0)) hok mmModel_isWord mk_Model_178 (ci := 12) rfl rfl (woModel hw) rfl (Nat.le_of_ble_eq_true rfl) rfl (Nat.le_of_ble_eq_true rfl) dModel_wordHere_4 rfl (by decide) H (fun v τ p1 => ?_)
  obtain ⟨r2, I3, L4, rfl, rfl, H⟩ := p1
  refine ev_if_eq 13 dModel_wordHere_7 (by decide) (fun c5 => ?_) (fun c5 => ?_)
  · have H := H.1 c5
    refine ev_aload_n dModel_wordHere_13 rfl ?_
    refine ev_ldc2 (470020945000) dModel_wordHere_14 (q_t7 16 (by decide +kernel) rfl) ?_
    refine ev_callV [.long 470020945000] [] (B' := (0, 0)) (B'' := (0, 0)) hok mmModel_isWord mk_Model_178 (ci := 12) rfl rfl (woModel hw) rfl (Nat.le_of_ble_eq_true rfl) rfl (Nat.le_of_ble_eq_true rfl) dModel_wordHere_17 rfl (by decide) H (fun v τ p6 => ?_)
    obtain ⟨r7, I8, L9, rfl, rfl, H⟩ := p6
    refine ev_if_eq 26 dModel_wordHere_20 (by decide) (fun c10 => ?_) (fun c10 => ?_)
    · have H := H.1 c10
      refine ev_aload_n dModel_wordHere_26 rfl ?_
      refine ev_ldc2 (33602627781095015) dModel_wordHere_27 (q_t7 19 (by decide +kernel) rfl) ?_
      refine ev_callV [.long 33602627781095015] [] (B' := (0, 0)) (B'' := (0, 0)) hok mmModel_isWord mk_Model_178 (ci := 12) rfl rfl (woModel hw) rfl (Nat.le_of_ble_eq_true rfl) rfl (Nat.le_of_ble_eq_true rfl) dModel_wordHere_30 rfl (by decide) H (fun v τ p11 => ?_)
      obtain ⟨r12, I13, L14, rfl, rfl, H⟩ := p11
      refine ev_if_eq 39 dModel_wordHere_33 (by decide) (fun c15 => ?_) (fun c15 => ?_)
      · have H := H.1 c15
        refine ev_aload_n dModel_wordHere_39 rfl ?_
        refine ev_ldc2 (1835099237) dModel_wordHere_40 (q_t7 23 (by decide +kernel) rfl) ?_
        refine ev_callV [.long 1835099237] [] (B' := (0, 0)) (B'' := (0, 0)) hok mmModel_isWord mk_Model_178 (ci := 12) rfl rfl (woModel hw) rfl (Nat.le_of_ble_eq_true rfl) rfl (Nat.le_of_ble_eq_true rfl) dModel_wordHere_43 rfl (by decide) H (fun v τ p16 => ?_)
        obtain ⟨r17, I18, L19, rfl, rfl, H⟩ := p16
        refine ev_if_eq 52 dModel_wordHere_46 (by decide) (fun c20 => ?_) (fun c20 => ?_)
        · have H := H.1 c20
          refine ev_aload_n dModel_wordHere_52 rfl ?_
          refine ev_getI hok fk_Model_309 (woModel hw) (fun _ _ _ => rfl) dModel_wordHere_53 ?_
          refine ev_if_ne 63 dModel_wordHere_56 (by decide) (fun c21 => ?_) (fun c21 => ?_)
          · have H := H.1 c21
            refine ev_iconst (0) dModel_wordHere_63 (by decide) ?_
            exact ev_sub [(0, .ref o)] rfl (sModel_wordHere_64 o n sh Rf I18 L19 post 0 hok hw H)
          · have H := H.2 c21
            refine ev_iconst (1) dModel_wordHere_59 (by decide) ?_
            refine ev_goto 64 dModel_wordHere_60 (by decide) ?_
            exact ev_sub [(0, .ref o)] rfl (sModel_wordHere_64 o n sh Rf I18 L19 post 1 hok hw H)
        · have H := H.2 c20
          refine ev_bipush (100) dModel_wordHere_49 (by decide) ?_
          exact ev_iret rfl dModel_wordHere_51 H
      · have H := H.2 c15
        refine ev_bipush (119) dModel_wordHere_36 (by decide) ?_
        exact ev_iret rfl dModel_wordHere_38 H
    · have H := H.2 c10
      refine ev_bipush (109) dModel_wordHere_23 (by decide) ?_
      exact ev_iret rfl dModel_wordHere_25 H
  · have H := H.2 c5
    refine ev_bipush (121) dModel_wordHere_10 (by decide) ?_
    exact ev_iret rfl dModel_wordHere_12 H
