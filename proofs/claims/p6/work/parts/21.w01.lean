/-! Walks of the reference: by program. -/
def fModel_panAt_0 (D : va_G) (cA : FieldType → ClassId) (b : Nat) (E : State → Prop) (o : Nat) (n : Nat) (sh : Nat → qC) (Rf : Nat → Nat → Option Nat) (I : Nat → Nat → Int32) (L : Nat → Nat → Int64) (post : Option Value → qS → Prop) (x1 : Int32) : Prop :=
  vp_in ((3 * (I o 34)) + x1) 6 ∧ post (some (.int ((I (o + 16) (((3 * (I o 34)) + x1) : Int32).toNatClampNeg)))) (n, sh, Rf, I, L)
set_option maxHeartbeats 4000000 in
set_option maxRecDepth 20000 in
theorem sModel_panAt_0 {D : va_G} {cA : FieldType → ClassId} {b : Nat} {E : State → Prop} (o : Nat) (n : Nat) (sh : Nat → qC) (Rf : Nat → Nat → Option Nat) (I : Nat → Nat → Int32) (L : Nat → Nat → Int64) (post : Option Value → qS → Prop) (x1 : Int32) (hok : q_ok (qGG D cA b E)) (hw : WfModel (qGG D cA b E) n sh Rf o) (H : fModel_panAt_0 D cA b E o n sh Rf I L post x1) : Ev (qGG D cA b E) mModel_panAt 0 (0, 0) 0 [(0, .ref o), (1, .int x1)] [] (n, sh, Rf, I, L) post := by
  unfold fModel_panAt_0 at H
  refine ev_aload_n dModel_panAt_0 rfl ?_
  refine ev_getR hok fk_Model_242 (woModel hw) (fun _ _ _ => rfl) (wrModel_25 hw) dModel_panAt_1 ?_
  refine ev_iconst (3) dModel_panAt_4 (by decide) ?_
  refine ev_aload_n dModel_panAt_5 rfl ?_
  refine ev_getI hok fk_Model_147 (woModel hw) (fun _ _ _ => rfl) dModel_panAt_6 ?_
  refine ev_imul dModel_panAt_9 ?_
  refine ev_iload_n dModel_panAt_10 rfl ?_
  refine ev_iadd dModel_panAt_11 ?_
  obtain ⟨h1, H⟩ := H
  refine ev_iald hok (waModel_25 hw) h1 dModel_panAt_12 ?_
  exact ev_iret rfl dModel_panAt_13 H
def fModel_pans_0 (D : va_G) (cA : FieldType → ClassId) (b : Nat) (E : State → Prop) (o : Nat) (n : Nat) (sh : Nat → qC) (Rf : Nat → Nat → Option Nat) (I : Nat → Nat → Int32) (L : Nat → Nat → Int64) (post : Option Value → qS → Prop)  : Prop :=
  vp_in (I o 34) 2 ∧ post (some (.int ((I (o + 8) ((I o 34) : Int32).toNatClampNeg)))) (n, sh, Rf, I, L)
set_option maxHeartbeats 4000000 in
set_option maxRecDepth 20000 in
theorem sModel_pans_0 {D : va_G} {cA : FieldType → ClassId} {b : Nat} {E : State → Prop} (o : Nat) (n : Nat) (sh : Nat → qC) (Rf : Nat → Nat → Option Nat) (I : Nat → Nat → Int32) (L : Nat → Nat → Int64) (post : Option Value → qS → Prop)  (hok : q_ok (qGG D cA b E)) (hw : WfModel (qGG D cA b E) n sh Rf o) (H : fModel_pans_0 D cA b E o n sh Rf I L post ) : Ev (qGG D cA b E) mModel_pans 0 (0, 0) 0 [(0, .ref o)] [] (n, sh, Rf, I, L) post := by
  unfold fModel_pans_0 at H
  refine ev_aload_n dModel_pans_0 rfl ?_
  refine ev_getR hok fk_Model_160 (woModel hw) (fun _ _ _ => rfl) (wrModel_17 hw) dModel_pans_1 ?_
  refine ev_aload_n dModel_pans_4 rfl ?_
  refine ev_getI hok fk_Model_147 (woModel hw) (fun _ _ _ => rfl) dModel_pans_5 ?_
  obtain ⟨h1, H⟩ := H
  refine ev_iald hok (waModel_17 hw) h1 dModel_pans_8 ?_
  exact ev_iret rfl dModel_pans_9 H
def fModel_paper_0 (D : va_G) (cA : FieldType → ClassId) (b : Nat) (E : State → Prop) (o : Nat) (n : Nat) (sh : Nat → qC) (Rf : Nat → Nat → Option Nat) (I : Nat → Nat → Int32) (L : Nat → Nat → Int64) (post : Option Value → qS → Prop) (x1 : Int32) (x2 : Int32) : Prop :=
  (((I o 135) = 0 → post (some (.int ((-1)))) (n, sh, Rf, I, L)) ∧ (¬ (I o 135) = 0 → ((x1 < 0 → post (some (.int ((-1)))) (n, sh, Rf, I, L)) ∧ (¬ x1 < 0 → ((x1 < (I o 104) → ((x2 = (0 : Int32) → vp_in x1 2000 ∧ post (some (.int ((I (o + 51) (x1 : Int32).toNatClampNeg)))) (n, sh, Rf, I, L)) ∧ (¬ x2 = (0 : Int32) → ((x2 = (1 : Int32) → vp_in x1 2000 ∧ post (some (.int ((I (o + 52) (x1 : Int32).toNatClampNeg)))) (n, sh, Rf, I, L)) ∧ (¬ x2 = (1 : Int32) → ((x2 = (2 : Int32) → vp_in x1 2000 ∧ post (some (.int ((I (o + 53) (x1 : Int32).toNatClampNeg)))) (n, sh, Rf, I, L)) ∧ (¬ x2 = (2 : Int32) → ((x2 = (3 : Int32) → vp_in x1 2000 ∧ post (some (.int ((I (o + 54) (x1 : Int32).toNatClampNeg)))) (n, sh, Rf, I, L)) ∧ (¬ x2 = (3 : Int32) → ((x2 = (4 : Int32) → vp_in x1 2000 ∧ post (some (.int ((I (o + 55) (x1 : Int32).toNatClampNeg)))) (n, sh, Rf, I, L)) ∧ (¬ x2 = (4 : Int32) → ((x2 = (5 : Int32) → vp_in x1 2000 ∧ (((I (o + 65) (x1 : Int32).toNatClampNeg) = 0 → post (some (.int 0)) (n, sh, Rf, I, L)) ∧ (¬ (I (o + 65) (x1 : Int32).toNatClampNeg) = 0 → post (some (.int 1)) (n, sh, Rf, I, L)))) ∧ (¬ x2 = (5 : Int32) → ((x2 = (6 : Int32) → vp_in x1 2000 ∧ post (some (.int ((I (o + 56) (x1 : Int32).toNatClampNeg)))) (n, sh, Rf, I, L)) ∧ (¬ x2 = (6 : Int32) → ((x2 = (7 : Int32) → vp_in x1 2000 ∧ (((I (o + 66) (x1 : Int32).toNatClampNeg) = 0 → post (some (.int 0)) (n, sh, Rf, I, L)) ∧ (¬ (I (o + 66) (x1 : Int32).toNatClampNeg) = 0 → post (some (.int 1)) (n, sh, Rf, I, L)))) ∧ (¬ x2 = (7 : Int32) → post (some (.int ((-1)))) (n, sh, Rf, I, L)))))))))))))))))) ∧ (¬ x1 < (I o 104) → post (some (.int ((-1)))) (n, sh, Rf, I, L)))))))
set_option maxHeartbeats 4000000 in
set_option maxRecDepth 20000 in
theorem sModel_paper_0 {D : va_G} {cA : FieldType → ClassId} {b : Nat} {E : State → Prop} (o : Nat) (n : Nat) (sh : Nat → qC) (Rf : Nat → Nat → Option Nat) (I : Nat → Nat → Int32) (L : Nat → Nat → Int64) (post : Option Value → qS → Prop) (x1 : Int32) (x2 : Int32) (hok : q_ok (qGG D cA b E)) (hw : WfModel (qGG D cA b E) n sh Rf o) (H : fModel_paper_0 D cA b E o n sh Rf I L post x1 x2) : Ev (qGG D cA b E) mModel_paper 0 (0, 0) 0 [(0, .ref o), (1, .int x1), (2, .int x2)] [] (n, sh, Rf, I, L) post := by
  unfold fModel_paper_0 at H
  refine ev_aload_n dModel_paper_0 rfl ?_
  refine ev_getI hok fk_Model_172 (woModel hw) (fun _ _ _ => rfl) dModel_paper_1 ?_
  refine ev_if_eq 19 dModel_paper_4 (by decide) (fun c1 => ?_) (fun c1 => ?_)
  · have H := H.1 c1
    refine ev_iconst (-1) dModel_paper_19 (by decide) ?_
    exact ev_iret rfl dModel_paper_20 H
  · have H := H.2 c1
    refine ev_iload_n dModel_paper_7 rfl ?_
    refine ev_if_lt 19 dModel_paper_8 (by decide) (fun c2 => ?_) (fun c2 => ?_)
    · have H := H.1 c2
      refine ev_iconst (-1) dModel_paper_19 (by decide) ?_
      exact ev_iret rfl dModel_paper_20 H
    · have H := H.2 c2
      refine ev_iload_n dModel_paper_11 rfl ?_
      refine ev_aload_n dModel_paper_12 rfl ?_
      refine ev_getI hok fk_Model_454 (woModel hw) (fun _ _ _ => rfl) dModel_paper_13 ?_
      refine ev_icmp_lt 21 dModel_paper_16 (by decide) (fun c3 => ?_) (fun c3 => ?_)
      · have H := H.1 c3
        refine ev_iload_n dModel_paper_21 rfl ?_
        rcases q_em (x2 = (0)) with c0 | c0
        · have H := H.1 c0
          refine ev_tableIn 68 dModel_paper_22 (by rw [c0]; decide) (by rw [c0]; decide) (off := 46) (by rw [c0]; rfl) (by decide) ?_
          refine ev_aload_n dModel_paper_68 rfl ?_
          refine ev_getR hok fk_Model_525 (woModel hw) (fun _ _ _ => rfl) (wrModel_84 hw) dModel_paper_69 ?_
          refine ev_iload_n dModel_paper_72 rfl ?_
          obtain ⟨h4, H⟩ := H
          refine ev_iald hok (waModel_84 hw) h4 dModel_paper_73 ?_
          exact ev_iret rfl dModel_paper_74 H
        have H := H.2 c0
        rcases q_em (x2 = (1)) with c1 | c1
        · have H := H.1 c1
          refine ev_tableIn 75 dModel_paper_22 (by rw [c1]; decide) (by rw [c1]; decide) (off := 53) (by rw [c1]; rfl) (by decide) ?_
          refine ev_aload_n dModel_paper_75 rfl ?_
          refine ev_getR hok fk_Model_457 (woModel hw) (fun _ _ _ => rfl) (wrModel_85 hw) dModel_paper_76 ?_
          refine ev_iload_n dModel_paper_79 rfl ?_
          obtain ⟨h5, H⟩ := H
          refine ev_iald hok (waModel_85 hw) h5 dModel_paper_80 ?_
          exact ev_iret rfl dModel_paper_81 H
        have H := H.2 c1
        rcases q_em (x2 = (2)) with c2 | c2
        · have H := H.1 c2
          refine ev_tableIn 82 dModel_paper_22 (by rw [c2]; decide) (by rw [c2]; decide) (off := 60) (by rw [c2]; rfl) (by decide) ?_
          refine ev_aload_n dModel_paper_82 rfl ?_
          refine ev_getR hok fk_Model_463 (woModel hw) (fun _ _ _ => rfl) (wrModel_86 hw) dModel_paper_83 ?_
          refine ev_iload_n dModel_paper_86 rfl ?_
          obtain ⟨h6, H⟩ := H
          refine ev_iald hok (waModel_86 hw) h6 dModel_paper_87 ?_
          exact ev_iret rfl dModel_paper_88 H
        have H := H.2 c2
        rcases q_em (x2 = (3)) with c3 | c3
        · have H := H.1 c3
          refine ev_tableIn 89 dModel_paper_22 (by rw [c3]; decide) (by rw [c3]; decide) (off := 67) (by rw [c3]; rfl) (by decide) ?_
          refine ev_aload_n dModel_paper_89 rfl ?_
          refine ev_getR hok fk_Model_528 (woModel hw) (fun _ _ _ => rfl) (wrModel_87 hw) dModel_paper_90 ?_
          refine ev_iload_n dModel_paper_93 rfl ?_
          obtain ⟨h7, H⟩ := H
          refine ev_iald hok (waModel_87 hw) h7 dModel_paper_94 ?_
          exact ev_iret rfl dModel_paper_95 H
        have H := H.2 c3
        rcases q_em (x2 = (4)) with c4 | c4
        · have H := H.1 c4
          refine ev_tableIn 96 dModel_paper_22 (by rw [c4]; decide) (by rw [c4]; decide) (off := 74) (by rw [c4]; rfl) (by decide) ?_
          refine ev_aload_n dModel_paper_96 rfl ?_
          refine ev_getR hok fk_Model_531 (woModel hw) (fun _ _ _ => rfl) (wrModel_88 hw) dModel_paper_97 ?_
          refine ev_iload_n dModel_paper_100 rfl ?_
          obtain ⟨h8, H⟩ := H
          refine ev_iald hok (waModel_88 hw) h8 dModel_paper_101 ?_
          exact ev_iret rfl dModel_paper_102 H
        have H := H.2 c4
        rcases q_em (x2 = (5)) with c5 | c5
        · have H := H.1 c5
          refine ev_tableIn 103 dModel_paper_22 (by rw [c5]; decide) (by rw [c5]; decide) (off := 81) (by rw [c5]; rfl) (by decide) ?_
          refine ev_aload_n dModel_paper_103 rfl ?_
          refine ev_getR hok fk_Model_534 (woModel hw) (fun _ _ _ => rfl) (wrModel_98 hw) dModel_paper_104 ?_
          refine ev_iload_n dModel_paper_107 rfl ?_
          obtain ⟨h9, H⟩ := H
          refine ev_zald hok (waModel_98 hw) h9 dModel_paper_108 ?_
          refine ev_if_eq 116 dModel_paper_109 (by decide) (fun c10 => ?_) (fun c10 => ?_)
          · have H := H.1 c10
            refine ev_iconst (0) dModel_paper_116 (by decide) ?_
            exact ev_iret rfl dModel_paper_117 H
          · have H := H.2 c10
            refine ev_iconst (1) dModel_paper_112 (by decide) ?_
            refine ev_goto 117 dModel_paper_113 (by decide) ?_
            exact ev_iret rfl dModel_paper_117 H
        have H := H.2 c5
        rcases q_em (x2 = (6)) with c6 | c6
        · have H := H.1 c6
          refine ev_tableIn 118 dModel_paper_22 (by rw [c6]; decide) (by rw [c6]; decide) (off := 96) (by rw [c6]; rfl) (by decide) ?_
          refine ev_aload_n dModel_paper_118 rfl ?_
          refine ev_getR hok fk_Model_447 (woModel hw) (fun _ _ _ => rfl) (wrModel_89 hw) dModel_paper_119 ?_
          refine ev_iload_n dModel_paper_122 rfl ?_
          obtain ⟨h11, H⟩ := H
          refine ev_iald hok (waModel_89 hw) h11 dModel_paper_123 ?_
          exact ev_iret rfl dModel_paper_124 H
        have H := H.2 c6
        rcases q_em (x2 = (7)) with c7 | c7
        · have H := H.1 c7
          refine ev_tableIn 125 dModel_paper_22 (by rw [c7]; decide) (by rw [c7]; decide) (off := 103) (by rw [c7]; rfl) (by decide) ?_
          refine ev_aload_n dModel_paper_125 rfl ?_
          refine ev_getR hok fk_Model_450 (woModel hw) (fun _ _ _ => rfl) (wrModel_99 hw) dModel_paper_126 ?_
          refine ev_iload_n dModel_paper_129 rfl ?_
          obtain ⟨h12, H⟩ := H
          refine ev_zald hok (waModel_99 hw) h12 dModel_paper_130 ?_
          refine ev_if_eq 138 dModel_paper_131 (by decide) (fun c13 => ?_) (fun c13 => ?_)
          · have H := H.1 c13
            refine ev_iconst (0) dModel_paper_138 (by decide) ?_
            exact ev_iret rfl dModel_paper_139 H
          · have H := H.2 c13
            refine ev_iconst (1) dModel_paper_134 (by decide) ?_
            refine ev_goto 139 dModel_paper_135 (by decide) ?_
            exact ev_iret rfl dModel_paper_139 H
        have H := H.2 c7
        refine ev_tableOut 140 dModel_paper_22 (by have e0 : (0 : Int) ≠ (x2 : Int32).toInt := fun h => c0 (Int32.toInt_inj.mp (h.symm.trans (by decide))); have e1 : (1 : Int) ≠ (x2 : Int32).toInt := fun h => c1 (Int32.toInt_inj.mp (h.symm.trans (by decide))); have e2 : (2 : Int) ≠ (x2 : Int32).toInt := fun h => c2 (Int32.toInt_inj.mp (h.symm.trans (by decide))); have e3 : (3 : Int) ≠ (x2 : Int32).toInt := fun h => c3 (Int32.toInt_inj.mp (h.symm.trans (by decide))); have e4 : (4 : Int) ≠ (x2 : Int32).toInt := fun h => c4 (Int32.toInt_inj.mp (h.symm.trans (by decide))); have e5 : (5 : Int) ≠ (x2 : Int32).toInt := fun h => c5 (Int32.toInt_inj.mp (h.symm.trans (by decide))); have e6 : (6 : Int) ≠ (x2 : Int32).toInt := fun h => c6 (Int32.toInt_inj.mp (h.symm.trans (by decide))); have e7 : (7 : Int) ≠ (x2 : Int32).toInt := fun h => c7 (Int32.toInt_inj.mp (h.symm.trans (by decide))); omega) (by decide) ?_
        refine ev_iconst (-1) dModel_paper_140 (by decide) ?_
        exact ev_iret rfl dModel_paper_141 H
      · have H := H.2 c3
        refine ev_iconst (-1) dModel_paper_19 (by decide) ?_
        exact ev_iret rfl dModel_paper_20 H
def fModel_pile_0 (D : va_G) (cA : FieldType → ClassId) (b : Nat) (E : State → Prop) (o : Nat) (n : Nat) (sh : Nat → qC) (Rf : Nat → Nat → Option Nat) (I : Nat → Nat → Int32) (L : Nat → Nat → Int64) (post : Option Value → qS → Prop) (x1 : Int32) (x2 : Int32) : Prop :=
  vp_in (I o 48) 80 ∧ ∀ I1 : Nat → Nat → Int32, q_u I (o + 32) ((I o 48) : Int32).toNatClampNeg x1 = I1 → vp_in (I1 o 48) 80 ∧ ∀ I3 : Nat → Nat → Int32, q_u I1 (o + 33) ((I1 o 48) : Int32).toNatClampNeg x2 = I3 → ∀ I5 : Nat → Nat → Int32, q_u I3 o 48 ((I3 o 48) + 1) = I5 → post none (n, sh, Rf, I5, L)
set_option maxHeartbeats 4000000 in
set_option maxRecDepth 20000 in
theorem sModel_pile_0 {D : va_G} {cA : FieldType → ClassId} {b : Nat} {E : State → Prop} (o : Nat) (n : Nat) (sh : Nat → qC) (Rf : Nat → Nat → Option Nat) (I : Nat → Nat → Int32) (L : Nat → Nat → Int64) (post : Option Value → qS → Prop) (x1 : Int32) (x2 : Int32) (hok : q_ok (qGG D cA b E)) (hw : WfModel (qGG D cA b E) n sh Rf o) (H : fModel_pile_0 D cA b E o n sh Rf I L post x1 x2) : Ev (qGG D cA b E) mModel_pile 0 (0, 0) 0 [(0, .ref o), (1, .int x1), (2, .int x2)] [] (n, sh, Rf, I, L) post := by
  unfold fModel_pile_0 at H
  refine ev_aload_n dModel_pile_0 rfl ?_
  refine ev_getR hok fk_Model_315 (woModel hw) (fun _ _ _ => rfl) (wrModel_43 hw) dModel_pile_1 ?_
  refine ev_aload_n dModel_pile_4 rfl ?_
  refine ev_getI hok fk_Model_318 (woModel hw) (fun _ _ _ => rfl) dModel_pile_5 ?_
  refine ev_iload_n dModel_pile_8 rfl ?_
  obtain ⟨h2, H⟩ := H
  refine ev_iast hok (waModel_43 hw) h2 dModel_pile_9 ?_
  generalize eI1 : q_u I (o + 32) ((I o 48) : Int32).toNatClampNeg x1 = I1
  have H := H I1 eI1
  refine ev_aload_n dModel_pile_10 rfl ?_
  refine ev_getR hok fk_Model_321 (woModel hw) (fun _ _ _ => rfl) (wrModel_50 hw) dModel_pile_11 ?_
  refine ev_aload_n dModel_pile_14 rfl ?_
  refine ev_getI hok fk_Model_318 (woModel hw) (fun _ _ _ => rfl) dModel_pile_15 ?_
  refine ev_iload_n dModel_pile_18 rfl ?_
  obtain ⟨h4, H⟩ := H
  refine ev_iast hok (waModel_50 hw) h4 dModel_pile_19 ?_
  generalize eI3 : q_u I1 (o + 33) ((I1 o 48) : Int32).toNatClampNeg x2 = I3
  have H := H I3 eI3
  refine ev_aload_n dModel_pile_20 rfl ?_
  refine ev_dup dModel_pile_21 rfl ?_
  refine ev_getI hok fk_Model_318 (woModel hw) (fun _ _ _ => rfl) dModel_pile_22 ?_
  refine ev_iconst (1) dModel_pile_25 (by decide) ?_
  refine ev_iadd dModel_pile_26 ?_
  refine ev_putI hok fk_Model_318 (woModel hw) (fun _ _ _ => rfl) rfl rfl dModel_pile_27 ?_
  generalize eI5 : q_u I3 o 48 ((I3 o 48) + 1) = I5
  have H := H I5 eI5
  exact ev_vret rfl dModel_pile_30 H
def fModel_priceOf_0 (D : va_G) (cA : FieldType → ClassId) (b : Nat) (E : State → Prop) (o : Nat) (n : Nat) (sh : Nat → qC) (Rf : Nat → Nat → Option Nat) (I : Nat → Nat → Int32) (L : Nat → Nat → Int64) (post : Option Value → qS → Prop) (x1 : Int32) : Prop :=
  vp_in ((5 * (I o 34)) + x1) 10 ∧ vp_in ((5 * (I o 34)) + x1) 10 ∧ ((¬ (I (o + 21) (((5 * (I o 34)) + x1) : Int32).toNatClampNeg) = 0 → vp_in x1 5 ∧ (¬ (((I (o + 21) (((5 * (I o 34)) + x1) : Int32).toNatClampNeg) : Int32).toInt64 : Int64) = 0) ∧ ((0 ≤ (lg_cmp ((((I (o + 22) (((5 * (I o 34)) + x1) : Int32).toNatClampNeg) : Int32).toInt64 * ((3 * ((I (o + 21) (((5 * (I o 34)) + x1) : Int32).toNatClampNeg) : Int32).toInt64) - ((I (o + 45) (x1 : Int32).toNatClampNeg) : Int32).toInt64)) / ((I (o + 21) (((5 * (I o 34)) + x1) : Int32).toNatClampNeg) : Int32).toInt64) ((((I (o + 22) (((5 * (I o 34)) + x1) : Int32).toNatClampNeg) / 4) : Int32).toInt64)) → post (some (.int ((((((I (o + 22) (((5 * (I o 34)) + x1) : Int32).toNatClampNeg) : Int32).toInt64 * ((3 * ((I (o + 21) (((5 * (I o 34)) + x1) : Int32).toNatClampNeg) : Int32).toInt64) - ((I (o + 45) (x1 : Int32).toNatClampNeg) : Int32).toInt64)) / ((I (o + 21) (((5 * (I o 34)) + x1) : Int32).toNatClampNeg) : Int32).toInt64) : Int64).toInt32))) (n, sh, Rf, I, L)) ∧ (¬ 0 ≤ (lg_cmp ((((I (o + 22) (((5 * (I o 34)) + x1) : Int32).toNatClampNeg) : Int32).toInt64 * ((3 * ((I (o + 21) (((5 * (I o 34)) + x1) : Int32).toNatClampNeg) : Int32).toInt64) - ((I (o + 45) (x1 : Int32).toNatClampNeg) : Int32).toInt64)) / ((I (o + 21) (((5 * (I o 34)) + x1) : Int32).toNatClampNeg) : Int32).toInt64) ((((I (o + 22) (((5 * (I o 34)) + x1) : Int32).toNatClampNeg) / 4) : Int32).toInt64)) → post (some (.int (((I (o + 22) (((5 * (I o 34)) + x1) : Int32).toNatClampNeg) / 4)))) (n, sh, Rf, I, L)))) ∧ ((I (o + 21) (((5 * (I o 34)) + x1) : Int32).toNatClampNeg) = 0 → post (some (.int ((I (o + 22) (((5 * (I o 34)) + x1) : Int32).toNatClampNeg)))) (n, sh, Rf, I, L)))
set_option maxHeartbeats 4000000 in
set_option maxRecDepth 20000 in
theorem sModel_priceOf_0 {D : va_G} {cA : FieldType → ClassId} {b : Nat} {E : State → Prop} (o : Nat) (n : Nat) (sh : Nat → qC) (Rf : Nat → Nat → Option Nat) (I : Nat → Nat → Int32) (L : Nat → Nat → Int64) (post : Option Value → qS → Prop) (x1 : Int32) (hok : q_ok (qGG D cA b E)) (hw : WfModel (qGG D cA b E) n sh Rf o) (H : fModel_priceOf_0 D cA b E o n sh Rf I L post x1) : Ev (qGG D cA b E) mModel_priceOf 0 (0, 0) 0 [(0, .ref o), (1, .int x1)] [] (n, sh, Rf, I, L) post := by
  unfold fModel_priceOf_0 at H
  refine ev_aload_n dModel_priceOf_0 rfl ?_
  refine ev_getR hok fk_Model_257 (woModel hw) (fun _ _ _ => rfl) (wrModel_30 hw) dModel_priceOf_1 ?_
  refine ev_iconst (5) dModel_priceOf_4 (by decide) ?_
  refine ev_aload_n dModel_priceOf_5 rfl ?_
  refine ev_getI hok fk_Model_147 (woModel hw) (fun _ _ _ => rfl) dModel_priceOf_6 ?_
  refine ev_imul dModel_priceOf_9 ?_
  refine ev_iload_n dModel_priceOf_10 rfl ?_
  refine ev_iadd dModel_priceOf_11 ?_
  obtain ⟨h1, H⟩ := H
  refine ev_iald hok (waModel_30 hw) h1 dModel_priceOf_12 ?_
  refine ev_istore_n dModel_priceOf_13 (by decide) ?_
  refine ev_aload_n dModel_priceOf_14 rfl ?_
  refine ev_getR hok fk_Model_260 (woModel hw) (fun _ _ _ => rfl) (wrModel_31 hw) dModel_priceOf_15 ?_
  refine ev_iconst (5) dModel_priceOf_18 (by decide) ?_
  refine ev_aload_n dModel_priceOf_19 rfl ?_
  refine ev_getI hok fk_Model_147 (woModel hw) (fun _ _ _ => rfl) dModel_priceOf_20 ?_
  refine ev_imul dModel_priceOf_23 ?_
  refine ev_iload_n dModel_priceOf_24 rfl ?_
  refine ev_iadd dModel_priceOf_25 ?_
  obtain ⟨h2, H⟩ := H
  refine ev_iald hok (waModel_31 hw) h2 dModel_priceOf_26 ?_
  refine ev_istore_n dModel_priceOf_27 (by decide) ?_
  refine ev_iload_n dModel_priceOf_28 rfl ?_
  refine ev_if_ne 34 dModel_priceOf_29 (by decide) (fun c3 => ?_) (fun c3 => ?_)
  · have H := H.1 c3
    refine ev_iload_n dModel_priceOf_34 rfl ?_
    refine ev_i2l dModel_priceOf_35 ?_
    refine ev_ldc2 (3) dModel_priceOf_36 (q_t8 30 (by decide +kernel) rfl) ?_
    refine ev_iload_n dModel_priceOf_39 rfl ?_
    refine ev_i2l dModel_priceOf_40 ?_
    refine ev_lmul dModel_priceOf_41 ?_
    refine ev_aload_n dModel_priceOf_42 rfl ?_
    refine ev_getR hok fk_Model_474 (woModel hw) (fun _ _ _ => rfl) (wrModel_78 hw) dModel_priceOf_43 ?_
    refine ev_iload_n dModel_priceOf_46 rfl ?_
    obtain ⟨h4, H⟩ := H
    refine ev_iald hok (waModel_78 hw) h4 dModel_priceOf_47 ?_
    refine ev_i2l dModel_priceOf_48 ?_
    refine ev_lsub dModel_priceOf_49 ?_
    refine ev_lmul dModel_priceOf_50 ?_
    refine ev_iload_n dModel_priceOf_51 rfl ?_
    refine ev_i2l dModel_priceOf_52 ?_
    obtain ⟨h5, H⟩ := H
    refine ev_ldiv dModel_priceOf_53 h5 ?_
    refine ev_lstore dModel_priceOf_54 (by decide) ?_
    refine ev_lload dModel_priceOf_56 rfl ?_
    refine ev_iload_n dModel_priceOf_58 rfl ?_
    refine ev_iconst (4) dModel_priceOf_59 (by decide) ?_
    refine ev_idiv dModel_priceOf_60 (by decide) ?_
    refine ev_i2l dModel_priceOf_61 ?_
    refine ev_lcmp dModel_priceOf_62 ?_
    refine ev_if_ge 72 dModel_priceOf_63 (by decide) (fun c6 => ?_) (fun c6 => ?_)
    · have H := H.1 c6
      refine ev_lload dModel_priceOf_72 rfl ?_
      refine ev_l2i dModel_priceOf_74 ?_
      exact ev_iret rfl dModel_priceOf_75 H
    · have H := H.2 c6
      refine ev_iload_n dModel_priceOf_66 rfl ?_
      refine ev_iconst (4) dModel_priceOf_67 (by decide) ?_
      refine ev_idiv dModel_priceOf_68 (by decide) ?_
      refine ev_goto 75 dModel_priceOf_69 (by decide) ?_
      exact ev_iret rfl dModel_priceOf_75 H
  · have H := H.2 c3
    refine ev_iload_n dModel_priceOf_32 rfl ?_
    exact ev_iret rfl dModel_priceOf_33 H
def fModel_sign_0 (D : va_G) (cA : FieldType → ClassId) (b : Nat) (E : State → Prop) (o : Nat) (n : Nat) (sh : Nat → qC) (Rf : Nat → Nat → Option Nat) (I : Nat → Nat → Int32) (L : Nat → Nat → Int64) (post : Option Value → qS → Prop) (x1 : Int32) : Prop :=
  (((I o 3) ≤ x1 → post (some (.int 0)) (n, sh, Rf, I, L)) ∧ (¬ (I o 3) ≤ x1 → vp_in x1 1600 ∧ post (some (.int (((I (o + 2) (x1 : Int32).toNatClampNeg) &&& 255)))) (n, sh, Rf, I, L)))
set_option maxHeartbeats 4000000 in
set_option maxRecDepth 20000 in
theorem sModel_sign_0 {D : va_G} {cA : FieldType → ClassId} {b : Nat} {E : State → Prop} (o : Nat) (n : Nat) (sh : Nat → qC) (Rf : Nat → Nat → Option Nat) (I : Nat → Nat → Int32) (L : Nat → Nat → Int64) (post : Option Value → qS → Prop) (x1 : Int32) (hok : q_ok (qGG D cA b E)) (hw : WfModel (qGG D cA b E) n sh Rf o) (H : fModel_sign_0 D cA b E o n sh Rf I L post x1) : Ev (qGG D cA b E) mModel_sign 0 (0, 0) 0 [(0, .ref o), (1, .int x1)] [] (n, sh, Rf, I, L) post := by
  unfold fModel_sign_0 at H
  refine ev_iload_n dModel_sign_0 rfl ?_
  refine ev_aload_n dModel_sign_1 rfl ?_
  refine ev_getI hok fk_Model_1 (woModel hw) (fun _ _ _ => rfl) dModel_sign_2 ?_
  refine ev_icmp_ge 21 dModel_sign_5 (by decide) (fun c1 => ?_) (fun c1 => ?_)
  · have H := H.1 c1
    refine ev_iconst (0) dModel_sign_21 (by decide) ?_
    exact ev_iret rfl dModel_sign_22 H
  · have H := H.2 c1
    refine ev_aload_n dModel_sign_8 rfl ?_
    refine ev_getR hok fk_Model_7 (woModel hw) (fun _ _ _ => rfl) (wrModel_1 hw) dModel_sign_9 ?_
    refine ev_iload_n dModel_sign_12 rfl ?_
    obtain ⟨h2, H⟩ := H
    refine ev_bald hok (waModel_1 hw) h2 dModel_sign_13 ?_
    refine ev_sipush (255) dModel_sign_14 (by decide) ?_
    refine ev_iand dModel_sign_17 ?_
    refine ev_goto 22 dModel_sign_18 (by decide) ?_
    exact ev_iret rfl dModel_sign_22 H
def fModel_step_0 (D : va_G) (cA : FieldType → ClassId) (b : Nat) (E : State → Prop) (o : Nat) (n : Nat) (sh : Nat → qC) (Rf : Nat → Nat → Option Nat) (I : Nat → Nat → Int32) (L : Nat → Nat → Int64) (post : Option Value → qS → Prop) (x1 : Int32) (x2 : Int32) : Prop :=
  vp_in ((700 * (I o 44)) + (I o 45)) 4200 ∧ ∀ I1 : Nat → Nat → Int32, q_u I (o + 30) (((700 * (I o 44)) + (I o 45)) : Int32).toNatClampNeg x1 = I1 → vp_in ((700 * (I1 o 44)) + (I1 o 45)) 4200 ∧ ∀ I3 : Nat → Nat → Int32, q_u I1 (o + 31) (((700 * (I1 o 44)) + (I1 o 45)) : Int32).toNatClampNeg x2 = I3 → ∀ I5 : Nat → Nat → Int32, q_u I3 o 45 ((I3 o 45) + 1) = I5 → post none (n, sh, Rf, I5, L)
set_option maxHeartbeats 4000000 in
set_option maxRecDepth 20000 in
theorem sModel_step_0 {D : va_G} {cA : FieldType → ClassId} {b : Nat} {E : State → Prop} (o : Nat) (n : Nat) (sh : Nat → qC) (Rf : Nat → Nat → Option Nat) (I : Nat → Nat → Int32) (L : Nat → Nat → Int64) (post : Option Value → qS → Prop) (x1 : Int32) (x2 : Int32) (hok : q_ok (qGG D cA b E)) (hw : WfModel (qGG D cA b E) n sh Rf o) (H : fModel_step_0 D cA b E o n sh Rf I L post x1 x2) : Ev (qGG D cA b E) mModel_step 0 (0, 0) 0 [(0, .ref o), (1, .int x1), (2, .int x2)] [] (n, sh, Rf, I, L) post := by
  unfold fModel_step_0 at H
  refine ev_aload_n dModel_step_0 rfl ?_
  refine ev_getR hok fk_Model_303 (woModel hw) (fun _ _ _ => rfl) (wrModel_41 hw) dModel_step_1 ?_
  refine ev_sipush (700) dModel_step_4 (by decide) ?_
  refine ev_aload_n dModel_step_7 rfl ?_
  refine ev_getI hok fk_Model_276 (woModel hw) (fun _ _ _ => rfl) dModel_step_8 ?_
  refine ev_imul dModel_step_11 ?_
  refine ev_aload_n dModel_step_12 rfl ?_
  refine ev_getI hok fk_Model_288 (woModel hw) (fun _ _ _ => rfl) dModel_step_13 ?_
  refine ev_iadd dModel_step_16 ?_
  refine ev_iload_n dModel_step_17 rfl ?_
  obtain ⟨h2, H⟩ := H
  refine ev_iast hok (waModel_41 hw) h2 dModel_step_18 ?_
  generalize eI1 : q_u I (o + 30) (((700 * (I o 44)) + (I o 45)) : Int32).toNatClampNeg x1 = I1
  have H := H I1 eI1
  refine ev_aload_n dModel_step_19 rfl ?_
  refine ev_getR hok fk_Model_306 (woModel hw) (fun _ _ _ => rfl) (wrModel_42 hw) dModel_step_20 ?_
  refine ev_sipush (700) dModel_step_23 (by decide) ?_
  refine ev_aload_n dModel_step_26 rfl ?_
  refine ev_getI hok fk_Model_276 (woModel hw) (fun _ _ _ => rfl) dModel_step_27 ?_
  refine ev_imul dModel_step_30 ?_
  refine ev_aload_n dModel_step_31 rfl ?_
  refine ev_getI hok fk_Model_288 (woModel hw) (fun _ _ _ => rfl) dModel_step_32 ?_
  refine ev_iadd dModel_step_35 ?_
  refine ev_iload_n dModel_step_36 rfl ?_
  obtain ⟨h4, H⟩ := H
  refine ev_iast hok (waModel_42 hw) h4 dModel_step_37 ?_
  generalize eI3 : q_u I1 (o + 31) (((700 * (I1 o 44)) + (I1 o 45)) : Int32).toNatClampNeg x2 = I3
  have H := H I3 eI3
  refine ev_aload_n dModel_step_38 rfl ?_
  refine ev_dup dModel_step_39 rfl ?_
  refine ev_getI hok fk_Model_288 (woModel hw) (fun _ _ _ => rfl) dModel_step_40 ?_
  refine ev_iconst (1) dModel_step_43 (by decide) ?_
  refine ev_iadd dModel_step_44 ?_
  refine ev_putI hok fk_Model_288 (woModel hw) (fun _ _ _ => rfl) rfl rfl dModel_step_45 ?_
  generalize eI5 : q_u I3 o 45 ((I3 o 45) + 1) = I5
  have H := H I5 eI5
  exact ev_vret rfl dModel_step_48 H
def fModel_takeTape_25 (D : va_G) (cA : FieldType → ClassId) (b : Nat) (E : State → Prop) (o : Nat) (n : Nat) (sh : Nat → qC) (Rf : Nat → Nat → Option Nat) (I : Nat → Nat → Int32) (L : Nat → Nat → Int64) (post : Option Value → qS → Prop) (x1 : Int32) (x2 : Int32) : Prop :=
  (((I o 3) ≤ x2 → ∀ I2 : Nat → Nat → Int32, q_u I o 2 0 = I2 → ∀ I3 : Nat → Nat → Int32, q_u I2 o 7 0 = I3 → post none (n, sh, Rf, I3, L)) ∧ (¬ (I o 3) ≤ x2 → vp_in x2 1620 ∧ vp_in x2 1600 ∧ ∀ I5 : Nat → Nat → Int32, q_u I (o + 2) (x2 : Int32).toNatClampNeg (vp_nar .byte (I (o + 1) (x2 : Int32).toNatClampNeg)) = I5 → Ev (qGG D cA b E) mModel_takeTape 0 (0, 0) 25 [(0, .ref o), (1, .int x1), (2, .int ((x2 + Int32.ofInt 1)))] [] (n, sh, Rf, I5, L) post))
set_option maxHeartbeats 4000000 in
set_option maxRecDepth 20000 in
theorem sModel_takeTape_25 {D : va_G} {cA : FieldType → ClassId} {b : Nat} {E : State → Prop} (o : Nat) (n : Nat) (sh : Nat → qC) (Rf : Nat → Nat → Option Nat) (I : Nat → Nat → Int32) (L : Nat → Nat → Int64) (post : Option Value → qS → Prop) (x1 : Int32) (x2 : Int32) (hok : q_ok (qGG D cA b E)) (hw : WfModel (qGG D cA b E) n sh Rf o) (H : fModel_takeTape_25 D cA b E o n sh Rf I L post x1 x2) : Ev (qGG D cA b E) mModel_takeTape 0 (0, 0) 25 [(0, .ref o), (1, .int x1), (2, .int x2)] [] (n, sh, Rf, I, L) post := by
  unfold fModel_takeTape_25 at H
  refine ev_iload_n dModel_takeTape_25 rfl ?_
  refine ev_aload_n dModel_takeTape_26 rfl ?_
  refine ev_getI hok fk_Model_1 (woModel hw) (fun _ _ _ => rfl) dModel_takeTape_27 ?_
  refine ev_icmp_ge 51 dModel_takeTape_30 (by decide) (fun c1 => ?_) (fun c1 => ?_)
  · have H := H.1 c1
    refine ev_aload_n dModel_takeTape_51 rfl ?_
    refine ev_iconst (0) dModel_takeTape_52 (by decide) ?_
    refine ev_putI hok fk_Model_137 (woModel hw) (fun _ _ _ => rfl) rfl rfl dModel_takeTape_53 ?_
    generalize eI2 : q_u I o 2 0 = I2
    have H := H I2 eI2
    refine ev_aload_n dModel_takeTape_56 rfl ?_
    refine ev_iconst (0) dModel_takeTape_57 (by decide) ?_
    refine ev_putI hok fk_Model_92 (woModel hw) (fun _ _ _ => rfl) rfl rfl dModel_takeTape_58 ?_
    generalize eI3 : q_u I2 o 7 0 = I3
    have H := H I3 eI3
    exact ev_vret rfl dModel_takeTape_61 H
  · have H := H.2 c1
    refine ev_aload_n dModel_takeTape_33 rfl ?_
    refine ev_getR hok fk_Model_7 (woModel hw) (fun _ _ _ => rfl) (wrModel_1 hw) dModel_takeTape_34 ?_
    refine ev_iload_n dModel_takeTape_37 rfl ?_
    refine ev_aload_n dModel_takeTape_38 rfl ?_
    refine ev_getR hok fk_Model_140 (woModel hw) (fun _ _ _ => rfl) (wrModel_0 hw) dModel_takeTape_39 ?_
    refine ev_iload_n dModel_takeTape_42 rfl ?_
    obtain ⟨h4, H⟩ := H
    refine ev_bald hok (waModel_0 hw) h4 dModel_takeTape_43 ?_
    obtain ⟨h6, H⟩ := H
    refine ev_bast hok (waModel_1 hw) h6 dModel_takeTape_44 ?_
    generalize eI5 : q_u I (o + 2) (x2 : Int32).toNatClampNeg (vp_nar .byte (I (o + 1) (x2 : Int32).toNatClampNeg)) = I5
    have H := H I5 eI5
    refine ev_iinc dModel_takeTape_45 rfl (by decide) ?_
    refine ev_goto 25 dModel_takeTape_48 (by decide) ?_
    exact ev_sub [(0, .ref o), (1, .int x1), (2, .int ((x2 + Int32.ofInt 1)))] rfl H
def fModel_takeTape_0 (D : va_G) (cA : FieldType → ClassId) (b : Nat) (E : State → Prop) (o : Nat) (n : Nat) (sh : Nat → qC) (Rf : Nat → Nat → Option Nat) (I : Nat → Nat → Int32) (L : Nat → Nat → Int64) (post : Option Value → qS → Prop) (x1 : Int32) : Prop :=
  (x1 = 0 ∨ x1 = 1) ∧ ∀ I1 : Nat → Nat → Int32, q_u I o 11 x1 = I1 → ∀ I3 : Nat → Nat → Int32, q_u I1 o 4 0 = I3 → ∀ I4 : Nat → Nat → Int32, q_u I3 o 5 (-1) = I4 → ∀ I5 : Nat → Nat → Int32, q_u I4 o 3 (I4 o 2) = I5 → Ev (qGG D cA b E) mModel_takeTape 0 (0, 0) 25 [(0, .ref o), (1, .int x1), (2, .int 0)] [] (n, sh, Rf, I5, L) post
set_option maxHeartbeats 4000000 in
set_option maxRecDepth 20000 in
theorem sModel_takeTape_0 {D : va_G} {cA : FieldType → ClassId} {b : Nat} {E : State → Prop} (o : Nat) (n : Nat) (sh : Nat → qC) (Rf : Nat → Nat → Option Nat) (I : Nat → Nat → Int32) (L : Nat → Nat → Int64) (post : Option Value → qS → Prop) (x1 : Int32) (hok : q_ok (qGG D cA b E)) (hw : WfModel (qGG D cA b E) n sh Rf o) (H : fModel_takeTape_0 D cA b E o n sh Rf I L post x1) : Ev (qGG D cA b E) mModel_takeTape 0 (0, 0) 0 [(0, .ref o), (1, .int x1)] [] (n, sh, Rf, I, L) post := by
  unfold fModel_takeTape_0 at H
  refine ev_aload_n dModel_takeTape_0 rfl ?_
  refine ev_iload_n dModel_takeTape_1 rfl ?_
  obtain ⟨h2, H⟩ := H
  refine ev_putI hok fk_Model_101 (woModel hw) (fun _ _ _ => rfl) (q_bz h2) (q_bf h2) dModel_takeTape_2 ?_
  generalize eI1 : q_u I o 11 x1 = I1
  have H := H I1 eI1
  refine ev_aload_n dModel_takeTape_5 rfl ?_
  refine ev_iconst (0) dModel_takeTape_6 (by decide) ?_
  refine ev_putI hok fk_Model_11 (woModel hw) (fun _ _ _ => rfl) rfl rfl dModel_takeTape_7 ?_
  generalize eI3 : q_u I1 o 4 0 = I3
  have H := H I3 eI3
  refine ev_aload_n dModel_takeTape_10 rfl ?_
  refine ev_iconst (-1) dModel_takeTape_11 (by decide) ?_
  refine ev_putI hok fk_Model_14 (woModel hw) (fun _ _ _ => rfl) rfl rfl dModel_takeTape_12 ?_
  generalize eI4 : q_u I3 o 5 (-1) = I4
  have H := H I4 eI4
  refine ev_aload_n dModel_takeTape_15 rfl ?_
  refine ev_aload_n dModel_takeTape_16 rfl ?_
  refine ev_getI hok fk_Model_137 (woModel hw) (fun _ _ _ => rfl) dModel_takeTape_17 ?_
  refine ev_putI hok fk_Model_1 (woModel hw) (fun _ _ _ => rfl) rfl rfl dModel_takeTape_20 ?_
  generalize eI5 : q_u I4 o 3 (I4 o 2) = I5
  have H := H I5 eI5
  refine ev_iconst (0) dModel_takeTape_23 (by decide) ?_
  refine ev_istore_n dModel_takeTape_24 (by decide) ?_
  exact ev_sub [(0, .ref o), (1, .int x1), (2, .int 0)] rfl H
def fModel_townAt_0 (D : va_G) (cA : FieldType → ClassId) (b : Nat) (E : State → Prop) (o : Nat) (n : Nat) (sh : Nat → qC) (Rf : Nat → Nat → Option Nat) (I : Nat → Nat → Int32) (L : Nat → Nat → Int64) (post : Option Value → qS → Prop) (x1 : Int32) : Prop :=
  vp_in ((5 * (I o 34)) + x1) 10 ∧ post (some (.int ((I (o + 19) (((5 * (I o 34)) + x1) : Int32).toNatClampNeg)))) (n, sh, Rf, I, L)
set_option maxHeartbeats 4000000 in
set_option maxRecDepth 20000 in
theorem sModel_townAt_0 {D : va_G} {cA : FieldType → ClassId} {b : Nat} {E : State → Prop} (o : Nat) (n : Nat) (sh : Nat → qC) (Rf : Nat → Nat → Option Nat) (I : Nat → Nat → Int32) (L : Nat → Nat → Int64) (post : Option Value → qS → Prop) (x1 : Int32) (hok : q_ok (qGG D cA b E)) (hw : WfModel (qGG D cA b E) n sh Rf o) (H : fModel_townAt_0 D cA b E o n sh Rf I L post x1) : Ev (qGG D cA b E) mModel_townAt 0 (0, 0) 0 [(0, .ref o), (1, .int x1)] [] (n, sh, Rf, I, L) post := by
  unfold fModel_townAt_0 at H
  refine ev_aload_n dModel_townAt_0 rfl ?_
  refine ev_getR hok fk_Model_251 (woModel hw) (fun _ _ _ => rfl) (wrModel_28 hw) dModel_townAt_1 ?_
  refine ev_iconst (5) dModel_townAt_4 (by decide) ?_
  refine ev_aload_n dModel_townAt_5 rfl ?_
  refine ev_getI hok fk_Model_147 (woModel hw) (fun _ _ _ => rfl) dModel_townAt_6 ?_
  refine ev_imul dModel_townAt_9 ?_
  refine ev_iload_n dModel_townAt_10 rfl ?_
  refine ev_iadd dModel_townAt_11 ?_
  obtain ⟨h1, H⟩ := H
  refine ev_iald hok (waModel_28 hw) h1 dModel_townAt_12 ?_
  exact ev_iret rfl dModel_townAt_13 H
def fModel_towns_0 (D : va_G) (cA : FieldType → ClassId) (b : Nat) (E : State → Prop) (o : Nat) (n : Nat) (sh : Nat → qC) (Rf : Nat → Nat → Option Nat) (I : Nat → Nat → Int32) (L : Nat → Nat → Int64) (post : Option Value → qS → Prop)  : Prop :=
  vp_in (I o 34) 2 ∧ post (some (.int ((I (o + 9) ((I o 34) : Int32).toNatClampNeg)))) (n, sh, Rf, I, L)
set_option maxHeartbeats 4000000 in
set_option maxRecDepth 20000 in
theorem sModel_towns_0 {D : va_G} {cA : FieldType → ClassId} {b : Nat} {E : State → Prop} (o : Nat) (n : Nat) (sh : Nat → qC) (Rf : Nat → Nat → Option Nat) (I : Nat → Nat → Int32) (L : Nat → Nat → Int64) (post : Option Value → qS → Prop)  (hok : q_ok (qGG D cA b E)) (hw : WfModel (qGG D cA b E) n sh Rf o) (H : fModel_towns_0 D cA b E o n sh Rf I L post ) : Ev (qGG D cA b E) mModel_towns 0 (0, 0) 0 [(0, .ref o)] [] (n, sh, Rf, I, L) post := by
  unfold fModel_towns_0 at H
  refine ev_aload_n dModel_towns_0 rfl ?_
  refine ev_getR hok fk_Model_163 (woModel hw) (fun _ _ _ => rfl) (wrModel_18 hw) dModel_towns_1 ?_
  refine ev_aload_n dModel_towns_4 rfl ?_
  refine ev_getI hok fk_Model_147 (woModel hw) (fun _ _ _ => rfl) dModel_towns_5 ?_
  obtain ⟨h1, H⟩ := H
  refine ev_iald hok (waModel_18 hw) h1 dModel_towns_8 ?_
  exact ev_iret rfl dModel_towns_9 H
def fModel_two_195 (D : va_G) (cA : FieldType → ClassId) (b : Nat) (E : State → Prop) (n : Nat) (sh : Nat → qC) (Rf : Nat → Nat → Option Nat) (I : Nat → Nat → Int32) (L : Nat → Nat → Int64) (post : Option Value → qS → Prop) (x0 : Int32) (x1 : Int32) (x2 : Int32) : Prop :=
  post (some (.int 1)) (n, sh, Rf, I, L)
set_option maxHeartbeats 4000000 in
set_option maxRecDepth 20000 in
theorem sModel_two_195 {D : va_G} {cA : FieldType → ClassId} {b : Nat} {E : State → Prop} (n : Nat) (sh : Nat → qC) (Rf : Nat → Nat → Option Nat) (I : Nat → Nat → Int32) (L : Nat → Nat → Int64) (post : Option Value → qS → Prop) (x0 : Int32) (x1 : Int32) (x2 : Int32) (hok : q_ok (qGG D cA b E)) (H : fModel_two_195 D cA b E n sh Rf I L post x0 x1 x2) : Ev (qGG D cA b E) mModel_two 0 (0, 0) 195 [(0, .int x0), (1, .int x1), (2, .int x2)] [] (n, sh, Rf, I, L) post := by
  unfold fModel_two_195 at H
  refine ev_iconst (1) dModel_two_195 (by decide) ?_
  refine ev_goto 200 dModel_two_196 (by decide) ?_
  exact ev_iret rfl dModel_two_200 H
def fModel_two_187 (D : va_G) (cA : FieldType → ClassId) (b : Nat) (E : State → Prop) (n : Nat) (sh : Nat → qC) (Rf : Nat → Nat → Option Nat) (I : Nat → Nat → Int32) (L : Nat → Nat → Int64) (post : Option Value → qS → Prop) (x0 : Int32) (x1 : Int32) (x2 : Int32) : Prop :=
  ((¬ x1 = 0 → fModel_two_195 D cA b E n sh Rf I L post x0 x1 x2) ∧ (x1 = 0 → ((x2 = 0 → post (some (.int 0)) (n, sh, Rf, I, L)) ∧ (¬ x2 = 0 → fModel_two_195 D cA b E n sh Rf I L post x0 x1 x2))))
set_option maxHeartbeats 4000000 in
set_option maxRecDepth 20000 in
theorem sModel_two_187 {D : va_G} {cA : FieldType → ClassId} {b : Nat} {E : State → Prop} (n : Nat) (sh : Nat → qC) (Rf : Nat → Nat → Option Nat) (I : Nat → Nat → Int32) (L : Nat → Nat → Int64) (post : Option Value → qS → Prop) (x0 : Int32) (x1 : Int32) (x2 : Int32) (hok : q_ok (qGG D cA b E)) (H : fModel_two_187 D cA b E n sh Rf I L post x0 x1 x2) : Ev (qGG D cA b E) mModel_two 0 (0, 0) 187 [(0, .int x0), (1, .int x1), (2, .int x2)] [] (n, sh, Rf, I, L) post := by
  unfold fModel_two_187 at H
  refine ev_iload_n dModel_two_187 rfl ?_
  refine ev_if_ne 195 dModel_two_188 (by decide) (fun c1 => ?_) (fun c1 => ?_)
  · have H := H.1 c1
    exact ev_sub [(0, .int x0), (1, .int x1), (2, .int x2)] rfl (sModel_two_195 n sh Rf I L post x0 x1 x2 hok H)
  · have H := H.2 c1
    refine ev_iload_n dModel_two_191 rfl ?_
    refine ev_if_eq 199 dModel_two_192 (by decide) (fun c2 => ?_) (fun c2 => ?_)
    · have H := H.1 c2
      refine ev_iconst (0) dModel_two_199 (by decide) ?_
      exact ev_iret rfl dModel_two_200 H
    · have H := H.2 c2
      exact ev_sub [(0, .int x0), (1, .int x1), (2, .int x2)] rfl (sModel_two_195 n sh Rf I L post x0 x1 x2 hok H)
def fModel_two_0 (D : va_G) (cA : FieldType → ClassId) (b : Nat) (E : State → Prop) (n : Nat) (sh : Nat → qC) (Rf : Nat → Nat → Option Nat) (I : Nat → Nat → Int32) (L : Nat → Nat → Int64) (post : Option Value → qS → Prop) (x0 : Int32) (x1 : Int32) (x2 : Int32) : Prop :=
  ((x0 = (38 : Int32) → ((x1 = 0 → post (some (.int 0)) (n, sh, Rf, I, L)) ∧ (¬ x1 = 0 → ((x2 = 0 → post (some (.int 0)) (n, sh, Rf, I, L)) ∧ (¬ x2 = 0 → post (some (.int 1)) (n, sh, Rf, I, L)))))) ∧ (¬ x0 = (38 : Int32) → ((x0 = (39 : Int32) → fModel_two_187 D cA b E n sh Rf I L post x0 x1 x2) ∧ (¬ x0 = (39 : Int32) → ((x0 = (40 : Int32) → fModel_two_187 D cA b E n sh Rf I L post x0 x1 x2) ∧ (¬ x0 = (40 : Int32) → ((x0 = (41 : Int32) → fModel_two_187 D cA b E n sh Rf I L post x0 x1 x2) ∧ (¬ x0 = (41 : Int32) → ((x0 = (42 : Int32) → post (some (.int ((x1 * x2)))) (n, sh, Rf, I, L)) ∧ (¬ x0 = (42 : Int32) → ((x0 = (43 : Int32) → post (some (.int ((x1 + x2)))) (n, sh, Rf, I, L)) ∧ (¬ x0 = (43 : Int32) → ((x0 = (44 : Int32) → fModel_two_187 D cA b E n sh Rf I L post x0 x1 x2) ∧ (¬ x0 = (44 : Int32) → ((x0 = (45 : Int32) → post (some (.int ((x1 - x2)))) (n, sh, Rf, I, L)) ∧ (¬ x0 = (45 : Int32) → ((x0 = (46 : Int32) → fModel_two_187 D cA b E n sh Rf I L post x0 x1 x2) ∧ (¬ x0 = (46 : Int32) → ((x0 = (47 : Int32) → ((¬ x2 = 0 → (¬ (x2 : Int32) = 0) ∧ post (some (.int ((x1 / x2)))) (n, sh, Rf, I, L)) ∧ (x2 = 0 → post (some (.int 0)) (n, sh, Rf, I, L)))) ∧ (¬ x0 = (47 : Int32) → ((x0 = (48 : Int32) → fModel_two_187 D cA b E n sh Rf I L post x0 x1 x2) ∧ (¬ x0 = (48 : Int32) → ((x0 = (49 : Int32) → fModel_two_187 D cA b E n sh Rf I L post x0 x1 x2) ∧ (¬ x0 = (49 : Int32) → ((x0 = (50 : Int32) → fModel_two_187 D cA b E n sh Rf I L post x0 x1 x2) ∧ (¬ x0 = (50 : Int32) → ((x0 = (51 : Int32) → fModel_two_187 D cA b E n sh Rf I L post x0 x1 x2) ∧ (¬ x0 = (51 : Int32) → ((x0 = (52 : Int32) → fModel_two_187 D cA b E n sh Rf I L post x0 x1 x2) ∧ (¬ x0 = (52 : Int32) → ((x0 = (53 : Int32) → fModel_two_187 D cA b E n sh Rf I L post x0 x1 x2) ∧ (¬ x0 = (53 : Int32) → ((x0 = (54 : Int32) → fModel_two_187 D cA b E n sh Rf I L post x0 x1 x2) ∧ (¬ x0 = (54 : Int32) → ((x0 = (55 : Int32) → fModel_two_187 D cA b E n sh Rf I L post x0 x1 x2) ∧ (¬ x0 = (55 : Int32) → ((x0 = (56 : Int32) → fModel_two_187 D cA b E n sh Rf I L post x0 x1 x2) ∧ (¬ x0 = (56 : Int32) → ((x0 = (57 : Int32) → fModel_two_187 D cA b E n sh Rf I L post x0 x1 x2) ∧ (¬ x0 = (57 : Int32) → ((x0 = (58 : Int32) → fModel_two_187 D cA b E n sh Rf I L post x0 x1 x2) ∧ (¬ x0 = (58 : Int32) → ((x0 = (59 : Int32) → fModel_two_187 D cA b E n sh Rf I L post x0 x1 x2) ∧ (¬ x0 = (59 : Int32) → ((x0 = (60 : Int32) → ((x2 ≤ x1 → post (some (.int 0)) (n, sh, Rf, I, L)) ∧ (¬ x2 ≤ x1 → post (some (.int 1)) (n, sh, Rf, I, L)))) ∧ (¬ x0 = (60 : Int32) → ((x0 = (61 : Int32) → ((¬ x1 = x2 → post (some (.int 0)) (n, sh, Rf, I, L)) ∧ (x1 = x2 → post (some (.int 1)) (n, sh, Rf, I, L)))) ∧ (¬ x0 = (61 : Int32) → ((x0 = (62 : Int32) → ((x1 ≤ x2 → post (some (.int 0)) (n, sh, Rf, I, L)) ∧ (¬ x1 ≤ x2 → post (some (.int 1)) (n, sh, Rf, I, L)))) ∧ (¬ x0 = (62 : Int32) → fModel_two_187 D cA b E n sh Rf I L post x0 x1 x2))))))))))))))))))))))))))))))))))))))))))))))))))
set_option maxHeartbeats 4000000 in
set_option maxRecDepth 20000 in
theorem sModel_two_0 {D : va_G} {cA : FieldType → ClassId} {b : Nat} {E : State → Prop} (n : Nat) (sh : Nat → qC) (Rf : Nat → Nat → Option Nat) (I : Nat → Nat → Int32) (L : Nat → Nat → Int64) (post : Option Value → qS → Prop) (x0 : Int32) (x1 : Int32) (x2 : Int32) (hok : q_ok (qGG D cA b E)) (H : fModel_two_0 D cA b E n sh Rf I L post x0 x1 x2) : Ev (qGG D cA b E) mModel_two 0 (0, 0) 0 [(0, .int x0), (1, .int x1), (2, .int x2)] [] (n, sh, Rf, I, L) post := by
  unfold fModel_two_0 at H
  refine ev_iload_n dModel_two_0 rfl ?_
  rcases q_em (x0 = (38)) with c0 | c0
  · have H := H.1 c0
    refine ev_tableIn 173 dModel_two_1 (by rw [c0]; decide) (by rw [c0]; decide) (off := 172) (by rw [c0]; rfl) (by decide) ?_
    refine ev_iload_n dModel_two_173 rfl ?_
    refine ev_if_eq 185 dModel_two_174 (by decide) (fun c1 => ?_) (fun c1 => ?_)
    · have H := H.1 c1
      refine ev_iconst (0) dModel_two_185 (by decide) ?_
      exact ev_iret rfl dModel_two_186 H
    · have H := H.2 c1
      refine ev_iload_n dModel_two_177 rfl ?_
      refine ev_if_eq 185 dModel_two_178 (by decide) (fun c2 => ?_) (fun c2 => ?_)
      · have H := H.1 c2
        refine ev_iconst (0) dModel_two_185 (by decide) ?_
        exact ev_iret rfl dModel_two_186 H
      · have H := H.2 c2
        refine ev_iconst (1) dModel_two_181 (by decide) ?_
        refine ev_goto 186 dModel_two_182 (by decide) ?_
        exact ev_iret rfl dModel_two_186 H
  have H := H.2 c0
  rcases q_em (x0 = (39)) with c1 | c1
  · have H := H.1 c1
    refine ev_tableIn 187 dModel_two_1 (by rw [c1]; decide) (by rw [c1]; decide) (off := 186) (by rw [c1]; rfl) (by decide) ?_
    exact ev_sub [(0, .int x0), (1, .int x1), (2, .int x2)] rfl (sModel_two_187 n sh Rf I L post x0 x1 x2 hok H)
  have H := H.2 c1
  rcases q_em (x0 = (40)) with c2 | c2
  · have H := H.1 c2
    refine ev_tableIn 187 dModel_two_1 (by rw [c2]; decide) (by rw [c2]; decide) (off := 186) (by rw [c2]; rfl) (by decide) ?_
    exact ev_sub [(0, .int x0), (1, .int x1), (2, .int x2)] rfl (sModel_two_187 n sh Rf I L post x0 x1 x2 hok H)
  have H := H.2 c2
  rcases q_em (x0 = (41)) with c3 | c3
  · have H := H.1 c3
    refine ev_tableIn 187 dModel_two_1 (by rw [c3]; decide) (by rw [c3]; decide) (off := 186) (by rw [c3]; rfl) (by decide) ?_
    exact ev_sub [(0, .int x0), (1, .int x1), (2, .int x2)] rfl (sModel_two_187 n sh Rf I L post x0 x1 x2 hok H)
  have H := H.2 c3
  rcases q_em (x0 = (42)) with c4 | c4
  · have H := H.1 c4
    refine ev_tableIn 124 dModel_two_1 (by rw [c4]; decide) (by rw [c4]; decide) (off := 123) (by rw [c4]; rfl) (by decide) ?_
    refine ev_iload_n dModel_two_124 rfl ?_
    refine ev_iload_n dModel_two_125 rfl ?_
    refine ev_imul dModel_two_126 ?_
    exact ev_iret rfl dModel_two_127 H
  have H := H.2 c4
  rcases q_em (x0 = (43)) with c5 | c5
  · have H := H.1 c5
    refine ev_tableIn 116 dModel_two_1 (by rw [c5]; decide) (by rw [c5]; decide) (off := 115) (by rw [c5]; rfl) (by decide) ?_
    refine ev_iload_n dModel_two_116 rfl ?_
    refine ev_iload_n dModel_two_117 rfl ?_
    refine ev_iadd dModel_two_118 ?_
    exact ev_iret rfl dModel_two_119 H
  have H := H.2 c5
  rcases q_em (x0 = (44)) with c6 | c6
  · have H := H.1 c6
    refine ev_tableIn 187 dModel_two_1 (by rw [c6]; decide) (by rw [c6]; decide) (off := 186) (by rw [c6]; rfl) (by decide) ?_
    exact ev_sub [(0, .int x0), (1, .int x1), (2, .int x2)] rfl (sModel_two_187 n sh Rf I L post x0 x1 x2 hok H)
  have H := H.2 c6
  rcases q_em (x0 = (45)) with c7 | c7
  · have H := H.1 c7
    refine ev_tableIn 120 dModel_two_1 (by rw [c7]; decide) (by rw [c7]; decide) (off := 119) (by rw [c7]; rfl) (by decide) ?_
    refine ev_iload_n dModel_two_120 rfl ?_
    refine ev_iload_n dModel_two_121 rfl ?_
    refine ev_isub dModel_two_122 ?_
    exact ev_iret rfl dModel_two_123 H
  have H := H.2 c7
  rcases q_em (x0 = (46)) with c8 | c8
  · have H := H.1 c8
    refine ev_tableIn 187 dModel_two_1 (by rw [c8]; decide) (by rw [c8]; decide) (off := 186) (by rw [c8]; rfl) (by decide) ?_
    exact ev_sub [(0, .int x0), (1, .int x1), (2, .int x2)] rfl (sModel_two_187 n sh Rf I L post x0 x1 x2 hok H)
  have H := H.2 c8
  rcases q_em (x0 = (47)) with c9 | c9
  · have H := H.1 c9
    refine ev_tableIn 128 dModel_two_1 (by rw [c9]; decide) (by rw [c9]; decide) (off := 127) (by rw [c9]; rfl) (by decide) ?_
    refine ev_iload_n dModel_two_128 rfl ?_
    refine ev_if_ne 136 dModel_two_129 (by decide) (fun c3 => ?_) (fun c3 => ?_)
    · have H := H.1 c3
      refine ev_iload_n dModel_two_136 rfl ?_
      refine ev_iload_n dModel_two_137 rfl ?_
      obtain ⟨h4, H⟩ := H
      refine ev_idiv dModel_two_138 h4 ?_
      exact ev_iret rfl dModel_two_139 H
    · have H := H.2 c3
      refine ev_iconst (0) dModel_two_132 (by decide) ?_
      refine ev_goto 139 dModel_two_133 (by decide) ?_
      exact ev_iret rfl dModel_two_139 H
  have H := H.2 c9
  rcases q_em (x0 = (48)) with c10 | c10
  · have H := H.1 c10
    refine ev_tableIn 187 dModel_two_1 (by rw [c10]; decide) (by rw [c10]; decide) (off := 186) (by rw [c10]; rfl) (by decide) ?_
    exact ev_sub [(0, .int x0), (1, .int x1), (2, .int x2)] rfl (sModel_two_187 n sh Rf I L post x0 x1 x2 hok H)
  have H := H.2 c10
  rcases q_em (x0 = (49)) with c11 | c11
  · have H := H.1 c11
    refine ev_tableIn 187 dModel_two_1 (by rw [c11]; decide) (by rw [c11]; decide) (off := 186) (by rw [c11]; rfl) (by decide) ?_
    exact ev_sub [(0, .int x0), (1, .int x1), (2, .int x2)] rfl (sModel_two_187 n sh Rf I L post x0 x1 x2 hok H)
  have H := H.2 c11
  rcases q_em (x0 = (50)) with c12 | c12
  · have H := H.1 c12
    refine ev_tableIn 187 dModel_two_1 (by rw [c12]; decide) (by rw [c12]; decide) (off := 186) (by rw [c12]; rfl) (by decide) ?_
    exact ev_sub [(0, .int x0), (1, .int x1), (2, .int x2)] rfl (sModel_two_187 n sh Rf I L post x0 x1 x2 hok H)
  have H := H.2 c12
  rcases q_em (x0 = (51)) with c13 | c13
  · have H := H.1 c13
    refine ev_tableIn 187 dModel_two_1 (by rw [c13]; decide) (by rw [c13]; decide) (off := 186) (by rw [c13]; rfl) (by decide) ?_
    exact ev_sub [(0, .int x0), (1, .int x1), (2, .int x2)] rfl (sModel_two_187 n sh Rf I L post x0 x1 x2 hok H)
  have H := H.2 c13
  rcases q_em (x0 = (52)) with c14 | c14
  · have H := H.1 c14
    refine ev_tableIn 187 dModel_two_1 (by rw [c14]; decide) (by rw [c14]; decide) (off := 186) (by rw [c14]; rfl) (by decide) ?_
    exact ev_sub [(0, .int x0), (1, .int x1), (2, .int x2)] rfl (sModel_two_187 n sh Rf I L post x0 x1 x2 hok H)
  have H := H.2 c14
  rcases q_em (x0 = (53)) with c15 | c15
  · have H := H.1 c15
    refine ev_tableIn 187 dModel_two_1 (by rw [c15]; decide) (by rw [c15]; decide) (off := 186) (by rw [c15]; rfl) (by decide) ?_
    exact ev_sub [(0, .int x0), (1, .int x1), (2, .int x2)] rfl (sModel_two_187 n sh Rf I L post x0 x1 x2 hok H)
  have H := H.2 c15
  rcases q_em (x0 = (54)) with c16 | c16
  · have H := H.1 c16
    refine ev_tableIn 187 dModel_two_1 (by rw [c16]; decide) (by rw [c16]; decide) (off := 186) (by rw [c16]; rfl) (by decide) ?_
    exact ev_sub [(0, .int x0), (1, .int x1), (2, .int x2)] rfl (sModel_two_187 n sh Rf I L post x0 x1 x2 hok H)
  have H := H.2 c16
  rcases q_em (x0 = (55)) with c17 | c17
  · have H := H.1 c17
    refine ev_tableIn 187 dModel_two_1 (by rw [c17]; decide) (by rw [c17]; decide) (off := 186) (by rw [c17]; rfl) (by decide) ?_
    exact ev_sub [(0, .int x0), (1, .int x1), (2, .int x2)] rfl (sModel_two_187 n sh Rf I L post x0 x1 x2 hok H)
  have H := H.2 c17
  rcases q_em (x0 = (56)) with c18 | c18
  · have H := H.1 c18
    refine ev_tableIn 187 dModel_two_1 (by rw [c18]; decide) (by rw [c18]; decide) (off := 186) (by rw [c18]; rfl) (by decide) ?_
    exact ev_sub [(0, .int x0), (1, .int x1), (2, .int x2)] rfl (sModel_two_187 n sh Rf I L post x0 x1 x2 hok H)
  have H := H.2 c18
  rcases q_em (x0 = (57)) with c19 | c19
  · have H := H.1 c19
    refine ev_tableIn 187 dModel_two_1 (by rw [c19]; decide) (by rw [c19]; decide) (off := 186) (by rw [c19]; rfl) (by decide) ?_
    exact ev_sub [(0, .int x0), (1, .int x1), (2, .int x2)] rfl (sModel_two_187 n sh Rf I L post x0 x1 x2 hok H)
  have H := H.2 c19
  rcases q_em (x0 = (58)) with c20 | c20
  · have H := H.1 c20
    refine ev_tableIn 187 dModel_two_1 (by rw [c20]; decide) (by rw [c20]; decide) (off := 186) (by rw [c20]; rfl) (by decide) ?_
    exact ev_sub [(0, .int x0), (1, .int x1), (2, .int x2)] rfl (sModel_two_187 n sh Rf I L post x0 x1 x2 hok H)
  have H := H.2 c20
  rcases q_em (x0 = (59)) with c21 | c21
  · have H := H.1 c21
    refine ev_tableIn 187 dModel_two_1 (by rw [c21]; decide) (by rw [c21]; decide) (off := 186) (by rw [c21]; rfl) (by decide) ?_
    exact ev_sub [(0, .int x0), (1, .int x1), (2, .int x2)] rfl (sModel_two_187 n sh Rf I L post x0 x1 x2 hok H)
  have H := H.2 c21
  rcases q_em (x0 = (60)) with c22 | c22
  · have H := H.1 c22
    refine ev_tableIn 140 dModel_two_1 (by rw [c22]; decide) (by rw [c22]; decide) (off := 139) (by rw [c22]; rfl) (by decide) ?_
    refine ev_iload_n dModel_two_140 rfl ?_
    refine ev_iload_n dModel_two_141 rfl ?_
    refine ev_icmp_ge 149 dModel_two_142 (by decide) (fun c5 => ?_) (fun c5 => ?_)
    · have H := H.1 c5
      refine ev_iconst (0) dModel_two_149 (by decide) ?_
      exact ev_iret rfl dModel_two_150 H
    · have H := H.2 c5
      refine ev_iconst (1) dModel_two_145 (by decide) ?_
      refine ev_goto 150 dModel_two_146 (by decide) ?_
      exact ev_iret rfl dModel_two_150 H
  have H := H.2 c22
  rcases q_em (x0 = (61)) with c23 | c23
  · have H := H.1 c23
    refine ev_tableIn 162 dModel_two_1 (by rw [c23]; decide) (by rw [c23]; decide) (off := 161) (by rw [c23]; rfl) (by decide) ?_
    refine ev_iload_n dModel_two_162 rfl ?_
    refine ev_iload_n dModel_two_163 rfl ?_
    refine ev_icmp_ne 171 dModel_two_164 (by decide) (fun c6 => ?_) (fun c6 => ?_)
    · have H := H.1 c6
      refine ev_iconst (0) dModel_two_171 (by decide) ?_
      exact ev_iret rfl dModel_two_172 H
    · have H := H.2 c6
      refine ev_iconst (1) dModel_two_167 (by decide) ?_
      refine ev_goto 172 dModel_two_168 (by decide) ?_
      exact ev_iret rfl dModel_two_172 H
  have H := H.2 c23
  rcases q_em (x0 = (62)) with c24 | c24
  · have H := H.1 c24
    refine ev_tableIn 151 dModel_two_1 (by rw [c24]; decide) (by rw [c24]; decide) (off := 150) (by rw [c24]; rfl) (by decide) ?_
    refine ev_iload_n dModel_two_151 rfl ?_
    refine ev_iload_n dModel_two_152 rfl ?_
    refine ev_icmp_le 160 dModel_two_153 (by decide) (fun c7 => ?_) (fun c7 => ?_)
    · have H := H.1 c7
      refine ev_iconst (0) dModel_two_160 (by decide) ?_
      exact ev_iret rfl dModel_two_161 H
    · have H := H.2 c7
      refine ev_iconst (1) dModel_two_156 (by decide) ?_
      refine ev_goto 161 dModel_two_157 (by decide) ?_
      exact ev_iret rfl dModel_two_161 H
  have H := H.2 c24
  refine ev_tableOut 187 dModel_two_1 (by have e0 : (38 : Int) ≠ (x0 : Int32).toInt := fun h => c0 (Int32.toInt_inj.mp (h.symm.trans (by decide))); have e1 : (39 : Int) ≠ (x0 : Int32).toInt := fun h => c1 (Int32.toInt_inj.mp (h.symm.trans (by decide))); have e2 : (40 : Int) ≠ (x0 : Int32).toInt := fun h => c2 (Int32.toInt_inj.mp (h.symm.trans (by decide))); have e3 : (41 : Int) ≠ (x0 : Int32).toInt := fun h => c3 (Int32.toInt_inj.mp (h.symm.trans (by decide))); have e4 : (42 : Int) ≠ (x0 : Int32).toInt := fun h => c4 (Int32.toInt_inj.mp (h.symm.trans (by decide))); have e5 : (43 : Int) ≠ (x0 : Int32).toInt := fun h => c5 (Int32.toInt_inj.mp (h.symm.trans (by decide))); have e6 : (44 : Int) ≠ (x0 : Int32).toInt := fun h => c6 (Int32.toInt_inj.mp (h.symm.trans (by decide))); have e7 : (45 : Int) ≠ (x0 : Int32).toInt := fun h => c7 (Int32.toInt_inj.mp (h.symm.trans (by decide))); have e8 : (46 : Int) ≠ (x0 : Int32).toInt := fun h => c8 (Int32.toInt_inj.mp (h.symm.trans (by decide))); have e9 : (47 : Int) ≠ (x0 : Int32).toInt := fun h => c9 (Int32.toInt_inj.mp (h.symm.trans (by decide))); have e10 : (48 : Int) ≠ (x0 : Int32).toInt := fun h => c10 (Int32.toInt_inj.mp (h.symm.trans (by decide))); have e11 : (49 : Int) ≠ (x0 : Int32).toInt := fun h => c11 (Int32.toInt_inj.mp (h.symm.trans (by decide))); have e12 : (50 : Int) ≠ (x0 : Int32).toInt := fun h => c12 (Int32.toInt_inj.mp (h.symm.trans (by decide))); have e13 : (51 : Int) ≠ (x0 : Int32).toInt := fun h => c13 (Int32.toInt_inj.mp (h.symm.trans (by decide))); have e14 : (52 : Int) ≠ (x0 : Int32).toInt := fun h => c14 (Int32.toInt_inj.mp (h.symm.trans (by decide))); have e15 : (53 : Int) ≠ (x0 : Int32).toInt := fun h => c15 (Int32.toInt_inj.mp (h.symm.trans (by decide))); have e16 : (54 : Int) ≠ (x0 : Int32).toInt := fun h => c16 (Int32.toInt_inj.mp (h.symm.trans (by decide))); have e17 : (55 : Int) ≠ (x0 : Int32).toInt := fun h => c17 (Int32.toInt_inj.mp (h.symm.trans (by decide))); have e18 : (56 : Int) ≠ (x0 : Int32).toInt := fun h => c18 (Int32.toInt_inj.mp (h.symm.trans (by decide))); have e19 : (57 : Int) ≠ (x0 : Int32).toInt := fun h => c19 (Int32.toInt_inj.mp (h.symm.trans (by decide))); have e20 : (58 : Int) ≠ (x0 : Int32).toInt := fun h => c20 (Int32.toInt_inj.mp (h.symm.trans (by decide))); have e21 : (59 : Int) ≠ (x0 : Int32).toInt := fun h => c21 (Int32.toInt_inj.mp (h.symm.trans (by decide))); have e22 : (60 : Int) ≠ (x0 : Int32).toInt := fun h => c22 (Int32.toInt_inj.mp (h.symm.trans (by decide))); have e23 : (61 : Int) ≠ (x0 : Int32).toInt := fun h => c23 (Int32.toInt_inj.mp (h.symm.trans (by decide))); have e24 : (62 : Int) ≠ (x0 : Int32).toInt := fun h => c24 (Int32.toInt_inj.mp (h.symm.trans (by decide))); omega) (by decide) ?_
  exact ev_sub [(0, .int x0), (1, .int x1), (2, .int x2)] rfl (sModel_two_187 n sh Rf I L post x0 x1 x2 hok H)
def fModel_untell_0 (D : va_G) (cA : FieldType → ClassId) (b : Nat) (E : State → Prop) (o : Nat) (n : Nat) (sh : Nat → qC) (Rf : Nat → Nat → Option Nat) (I : Nat → Nat → Int32) (L : Nat → Nat → Int64) (post : Option Value → qS → Prop) (x1 : Int32) : Prop :=
  ((x1 < 0 → post (some (.int 0)) (n, sh, Rf, I, L)) ∧ (¬ x1 < 0 → (((I o 67) ≤ x1 → post (some (.int 0)) (n, sh, Rf, I, L)) ∧ (¬ (I o 67) ≤ x1 → vp_in x1 40 ∧ (((I (o + 41) (x1 : Int32).toNatClampNeg) < 0 → vp_in x1 40 ∧ ∀ I5 : Nat → Nat → Int32, q_u I (o + 41) (x1 : Int32).toNatClampNeg (I o 68) = I5 → post (some (.int 1)) (n, sh, Rf, I5, L)) ∧ (¬ (I (o + 41) (x1 : Int32).toNatClampNeg) < 0 → post (some (.int 0)) (n, sh, Rf, I, L)))))))
set_option maxHeartbeats 4000000 in
set_option maxRecDepth 20000 in
theorem sModel_untell_0 {D : va_G} {cA : FieldType → ClassId} {b : Nat} {E : State → Prop} (o : Nat) (n : Nat) (sh : Nat → qC) (Rf : Nat → Nat → Option Nat) (I : Nat → Nat → Int32) (L : Nat → Nat → Int64) (post : Option Value → qS → Prop) (x1 : Int32) (hok : q_ok (qGG D cA b E)) (hw : WfModel (qGG D cA b E) n sh Rf o) (H : fModel_untell_0 D cA b E o n sh Rf I L post x1) : Ev (qGG D cA b E) mModel_untell 0 (0, 0) 0 [(0, .ref o), (1, .int x1)] [] (n, sh, Rf, I, L) post := by
  unfold fModel_untell_0 at H
  refine ev_iload_n dModel_untell_0 rfl ?_
  refine ev_if_lt 21 dModel_untell_1 (by decide) (fun c1 => ?_) (fun c1 => ?_)
  · have H := H.1 c1
    refine ev_iconst (0) dModel_untell_21 (by decide) ?_
    exact ev_zret rfl (by decide) dModel_untell_22 H
  · have H := H.2 c1
    refine ev_iload_n dModel_untell_4 rfl ?_
    refine ev_aload_n dModel_untell_5 rfl ?_
    refine ev_getI hok fk_Model_169 (woModel hw) (fun _ _ _ => rfl) dModel_untell_6 ?_
    refine ev_icmp_ge 21 dModel_untell_9 (by decide) (fun c2 => ?_) (fun c2 => ?_)
    · have H := H.1 c2
      refine ev_iconst (0) dModel_untell_21 (by decide) ?_
      exact ev_zret rfl (by decide) dModel_untell_22 H
    · have H := H.2 c2
      refine ev_aload_n dModel_untell_12 rfl ?_
      refine ev_getR hok fk_Model_430 (woModel hw) (fun _ _ _ => rfl) (wrModel_65 hw) dModel_untell_13 ?_
      refine ev_iload_n dModel_untell_16 rfl ?_
      obtain ⟨h3, H⟩ := H
      refine ev_iald hok (waModel_65 hw) h3 dModel_untell_17 ?_
      refine ev_if_lt 23 dModel_untell_18 (by decide) (fun c4 => ?_) (fun c4 => ?_)
      · have H := H.1 c4
        refine ev_aload_n dModel_untell_23 rfl ?_
        refine ev_getR hok fk_Model_430 (woModel hw) (fun _ _ _ => rfl) (wrModel_65 hw) dModel_untell_24 ?_
        refine ev_iload_n dModel_untell_27 rfl ?_
        refine ev_aload_n dModel_untell_28 rfl ?_
        refine ev_getI hok fk_Model_427 (woModel hw) (fun _ _ _ => rfl) dModel_untell_29 ?_
        obtain ⟨h6, H⟩ := H
        refine ev_iast hok (waModel_65 hw) h6 dModel_untell_32 ?_
        generalize eI5 : q_u I (o + 41) (x1 : Int32).toNatClampNeg (I o 68) = I5
        have H := H I5 eI5
        refine ev_iconst (1) dModel_untell_33 (by decide) ?_
        exact ev_zret rfl (by decide) dModel_untell_34 H
      · have H := H.2 c4
        refine ev_iconst (0) dModel_untell_21 (by decide) ?_
        exact ev_zret rfl (by decide) dModel_untell_22 H
def fModel_waits_0 (D : va_G) (cA : FieldType → ClassId) (b : Nat) (E : State → Prop) (o : Nat) (n : Nat) (sh : Nat → qC) (Rf : Nat → Nat → Option Nat) (I : Nat → Nat → Int32) (L : Nat → Nat → Int64) (post : Option Value → qS → Prop) (x1 : Int32) : Prop :=
  vp_in x1 2000 ∧ ((0 ≤ (I (o + 56) (x1 : Int32).toNatClampNeg) → post (some (.int 0)) (n, sh, Rf, I, L)) ∧ (¬ 0 ≤ (I (o + 56) (x1 : Int32).toNatClampNeg) → vp_in x1 2000 ∧ ((¬ (I (o + 66) (x1 : Int32).toNatClampNeg) = 0 → post (some (.int 0)) (n, sh, Rf, I, L)) ∧ ((I (o + 66) (x1 : Int32).toNatClampNeg) = 0 → post (some (.int 1)) (n, sh, Rf, I, L)))))
set_option maxHeartbeats 4000000 in
set_option maxRecDepth 20000 in
theorem sModel_waits_0 {D : va_G} {cA : FieldType → ClassId} {b : Nat} {E : State → Prop} (o : Nat) (n : Nat) (sh : Nat → qC) (Rf : Nat → Nat → Option Nat) (I : Nat → Nat → Int32) (L : Nat → Nat → Int64) (post : Option Value → qS → Prop) (x1 : Int32) (hok : q_ok (qGG D cA b E)) (hw : WfModel (qGG D cA b E) n sh Rf o) (H : fModel_waits_0 D cA b E o n sh Rf I L post x1) : Ev (qGG D cA b E) mModel_waits 0 (0, 0) 0 [(0, .ref o), (1, .int x1)] [] (n, sh, Rf, I, L) post := by
  unfold fModel_waits_0 at H
  refine ev_aload_n dModel_waits_0 rfl ?_
  refine ev_getR hok fk_Model_447 (woModel hw) (fun _ _ _ => rfl) (wrModel_89 hw) dModel_waits_1 ?_
  refine ev_iload_n dModel_waits_4 rfl ?_
  obtain ⟨h1, H⟩ := H
  refine ev_iald hok (waModel_89 hw) h1 dModel_waits_5 ?_
  refine ev_if_ge 22 dModel_waits_6 (by decide) (fun c2 => ?_) (fun c2 => ?_)
  · have H := H.1 c2
    refine ev_iconst (0) dModel_waits_22 (by decide) ?_
    exact ev_zret rfl (by decide) dModel_waits_23 H
  · have H := H.2 c2
    refine ev_aload_n dModel_waits_9 rfl ?_
    refine ev_getR hok fk_Model_450 (woModel hw) (fun _ _ _ => rfl) (wrModel_99 hw) dModel_waits_10 ?_
    refine ev_iload_n dModel_waits_13 rfl ?_
    obtain ⟨h3, H⟩ := H
    refine ev_zald hok (waModel_99 hw) h3 dModel_waits_14 ?_
    refine ev_if_ne 22 dModel_waits_15 (by decide) (fun c4 => ?_) (fun c4 => ?_)
    · have H := H.1 c4
      refine ev_iconst (0) dModel_waits_22 (by decide) ?_
      exact ev_zret rfl (by decide) dModel_waits_23 H
    · have H := H.2 c4
      refine ev_iconst (1) dModel_waits_18 (by decide) ?_
      refine ev_goto 23 dModel_waits_19 (by decide) ?_
      exact ev_zret rfl (by decide) dModel_waits_23 H
def fModel_weigh_0 (D : va_G) (cA : FieldType → ClassId) (b : Nat) (E : State → Prop) (o : Nat) (n : Nat) (sh : Nat → qC) (Rf : Nat → Nat → Option Nat) (I : Nat → Nat → Int32) (L : Nat → Nat → Int64) (post : Option Value → qS → Prop) (x1 : Int32) (x2 : Int32) (x3 : Int32) (x4 : Int32) (x5 : Int32) (x6 : Int64) : Prop :=
  ((x4 = 0 → post none (n, sh, Rf, I, L)) ∧ (¬ x4 = 0 → ((0 < (lg_cmp x6 (L o 128)) → ∀ I3 : Nat → Nat → Int32, q_u I o 122 x1 = I3 → ∀ I4 : Nat → Nat → Int32, q_u I3 o 123 x2 = I4 → ∀ I5 : Nat → Nat → Int32, q_u I4 o 124 x3 = I5 → ∀ I6 : Nat → Nat → Int32, q_u I5 o 125 x4 = I6 → ∀ I7 : Nat → Nat → Int32, q_u I6 o 126 x5 = I7 → ∀ L8 : Nat → Nat → Int64, q_u L o 128 x6 = L8 → post none (n, sh, Rf, I7, L8)) ∧ (¬ 0 < (lg_cmp x6 (L o 128)) → post none (n, sh, Rf, I, L)))))
set_option maxHeartbeats 4000000 in
set_option maxRecDepth 20000 in
theorem sModel_weigh_0 {D : va_G} {cA : FieldType → ClassId} {b : Nat} {E : State → Prop} (o : Nat) (n : Nat) (sh : Nat → qC) (Rf : Nat → Nat → Option Nat) (I : Nat → Nat → Int32) (L : Nat → Nat → Int64) (post : Option Value → qS → Prop) (x1 : Int32) (x2 : Int32) (x3 : Int32) (x4 : Int32) (x5 : Int32) (x6 : Int64) (hok : q_ok (qGG D cA b E)) (hw : WfModel (qGG D cA b E) n sh Rf o) (H : fModel_weigh_0 D cA b E o n sh Rf I L post x1 x2 x3 x4 x5 x6) : Ev (qGG D cA b E) mModel_weigh 0 (0, 0) 0 [(0, .ref o), (1, .int x1), (2, .int x2), (3, .int x3), (4, .int x4), (5, .int x5), (6, .long x6)] [] (n, sh, Rf, I, L) post := by
  unfold fModel_weigh_0 at H
  refine ev_iload dModel_weigh_0 rfl ?_
  refine ev_if_eq 15 dModel_weigh_2 (by decide) (fun c1 => ?_) (fun c1 => ?_)
  · have H := H.1 c1
    exact ev_vret rfl dModel_weigh_15 H
  · have H := H.2 c1
    refine ev_lload dModel_weigh_5 rfl ?_
    refine ev_aload_n dModel_weigh_7 rfl ?_
    refine ev_getL hok fk_Model_633 (woModel hw) (fun _ _ _ => rfl) dModel_weigh_8 ?_
    refine ev_lcmp dModel_weigh_11 ?_
    refine ev_if_gt 16 dModel_weigh_12 (by decide) (fun c2 => ?_) (fun c2 => ?_)
    · have H := H.1 c2
      refine ev_aload_n dModel_weigh_16 rfl ?_
      refine ev_iload_n dModel_weigh_17 rfl ?_
      refine ev_putI hok fk_Model_636 (woModel hw) (fun _ _ _ => rfl) rfl rfl dModel_weigh_18 ?_
      generalize eI3 : q_u I o 122 x1 = I3
      have H := H I3 eI3
      refine ev_aload_n dModel_weigh_21 rfl ?_
      refine ev_iload_n dModel_weigh_22 rfl ?_
      refine ev_putI hok fk_Model_639 (woModel hw) (fun _ _ _ => rfl) rfl rfl dModel_weigh_23 ?_
      generalize eI4 : q_u I3 o 123 x2 = I4
      have H := H I4 eI4
      refine ev_aload_n dModel_weigh_26 rfl ?_
      refine ev_iload_n dModel_weigh_27 rfl ?_
      refine ev_putI hok fk_Model_642 (woModel hw) (fun _ _ _ => rfl) rfl rfl dModel_weigh_28 ?_
      generalize eI5 : q_u I4 o 124 x3 = I5
      have H := H I5 eI5
      refine ev_aload_n dModel_weigh_31 rfl ?_
      refine ev_iload dModel_weigh_32 rfl ?_
      refine ev_putI hok fk_Model_645 (woModel hw) (fun _ _ _ => rfl) rfl rfl dModel_weigh_34 ?_
      generalize eI6 : q_u I5 o 125 x4 = I6
      have H := H I6 eI6
      refine ev_aload_n dModel_weigh_37 rfl ?_
      refine ev_iload dModel_weigh_38 rfl ?_
      refine ev_putI hok fk_Model_648 (woModel hw) (fun _ _ _ => rfl) rfl rfl dModel_weigh_40 ?_
      generalize eI7 : q_u I6 o 126 x5 = I7
      have H := H I7 eI7
      refine ev_aload_n dModel_weigh_43 rfl ?_
      refine ev_lload dModel_weigh_44 rfl ?_
      refine ev_putL hok fk_Model_633 (woModel hw) (fun _ _ _ => rfl) rfl rfl dModel_weigh_46 ?_
      generalize eL8 : q_u L o 128 x6 = L8
      have H := H L8 eL8
      exact ev_vret rfl dModel_weigh_49 H
    · have H := H.2 c2
      exact ev_vret rfl dModel_weigh_15 H
def fModel_aTwelfth_4 (D : va_G) (cA : FieldType → ClassId) (b : Nat) (E : State → Prop) (o : Nat) (n : Nat) (sh : Nat → qC) (Rf : Nat → Nat → Option Nat) (I : Nat → Nat → Int32) (L : Nat → Nat → Int64) (post : Option Value → qS → Prop) (x1 : Int32) (x2 : Int32) (x3 : Int32) : Prop :=
  ((12 ≤ x3 → Ev (qGG D cA b E) mModel_atLeastOne 0 (0, 0) 0 (lv_args 0 [.int ((x2 / 12))]) [] (n, sh, Rf, I, L) (fun v τ => ∃ (r3 : Int32) (I4 : Nat → Nat → Int32) (L5 : Nat → Nat → Int64), v = some (.int r3) ∧ τ = (n, sh, Rf, I4, L5) ∧ post (some (.int r3)) (n, sh, Rf, I4, L5))) ∧ (¬ 12 ≤ x3 → vp_in ((12 * ((3 * (I o 34)) + x1)) + x3) 72 ∧ Ev (qGG D cA b E) mModel_aTwelfth 1 (0, 0) 4 [(0, .ref o), (1, .int x1), (2, .int ((x2 + (I (o + 17) (((12 * ((3 * (I o 34)) + x1)) + x3) : Int32).toNatClampNeg)))), (3, .int ((x3 + Int32.ofInt 1)))] [] (n, sh, Rf, I, L) post))
set_option maxHeartbeats 4000000 in
set_option maxRecDepth 20000 in
theorem sModel_aTwelfth_4 {D : va_G} {cA : FieldType → ClassId} {b : Nat} {E : State → Prop} (o : Nat) (n : Nat) (sh : Nat → qC) (Rf : Nat → Nat → Option Nat) (I : Nat → Nat → Int32) (L : Nat → Nat → Int64) (post : Option Value → qS → Prop) (x1 : Int32) (x2 : Int32) (x3 : Int32) (hok : q_ok (qGG D cA b E)) (hw : WfModel (qGG D cA b E) n sh Rf o) (H : fModel_aTwelfth_4 D cA b E o n sh Rf I L post x1 x2 x3) : Ev (qGG D cA b E) mModel_aTwelfth 1 (0, 0) 4 [(0, .ref o), (1, .int x1), (2, .int x2), (3, .int x3)] [] (n, sh, Rf, I, L) post := by
  unfold fModel_aTwelfth_4 at H
  refine ev_iload_n dModel_aTwelfth_4 rfl ?_
  refine ev_bipush (12) dModel_aTwelfth_5 (by decide) ?_
  refine ev_icmp_ge 37 dModel_aTwelfth_7 (by decide) (fun c1 => ?_) (fun c1 => ?_)
  · have H := H.1 c1
    refine ev_iload_n dModel_aTwelfth_37 rfl ?_
    refine ev_bipush (12) dModel_aTwelfth_38 (by decide) ?_
    refine ev_idiv dModel_aTwelfth_40 (by decide) ?_
    refine ev_callS [.int ((x2 / 12))] [] (B' := (0, 0)) (B'' := (0, 0)) hok mmModel_atLeastOne mk_Model_477 rfl (Nat.le_of_ble_eq_true rfl) rfl (Nat.le_of_ble_eq_true rfl) dModel_aTwelfth_41 rfl (by decide) H (fun v τ p2 => ?_)
    obtain ⟨r3, I4, L5, rfl, rfl, H⟩ := p2
    exact ev_iret rfl dModel_aTwelfth_44 H
  · have H := H.2 c1
    refine ev_iload_n dModel_aTwelfth_10 rfl ?_
    refine ev_aload_n dModel_aTwelfth_11 rfl ?_
    refine ev_getR hok fk_Model_245 (woModel hw) (fun _ _ _ => rfl) (wrModel_26 hw) dModel_aTwelfth_12 ?_
    refine ev_bipush (12) dModel_aTwelfth_15 (by decide) ?_
    refine ev_iconst (3) dModel_aTwelfth_17 (by decide) ?_
    refine ev_aload_n dModel_aTwelfth_18 rfl ?_
    refine ev_getI hok fk_Model_147 (woModel hw) (fun _ _ _ => rfl) dModel_aTwelfth_19 ?_
    refine ev_imul dModel_aTwelfth_22 ?_
    refine ev_iload_n dModel_aTwelfth_23 rfl ?_
    refine ev_iadd dModel_aTwelfth_24 ?_
    refine ev_imul dModel_aTwelfth_25 ?_
    refine ev_iload_n dModel_aTwelfth_26 rfl ?_
    refine ev_iadd dModel_aTwelfth_27 ?_
    obtain ⟨h6, H⟩ := H
    refine ev_iald hok (waModel_26 hw) h6 dModel_aTwelfth_28 ?_
    refine ev_iadd dModel_aTwelfth_29 ?_
    refine ev_istore_n dModel_aTwelfth_30 (by decide) ?_
    refine ev_iinc dModel_aTwelfth_31 rfl (by decide) ?_
    refine ev_goto 4 dModel_aTwelfth_34 (by decide) ?_
    exact ev_sub [(0, .ref o), (1, .int x1), (2, .int ((x2 + (I (o + 17) (((12 * ((3 * (I o 34)) + x1)) + x3) : Int32).toNatClampNeg)))), (3, .int ((x3 + Int32.ofInt 1)))] rfl H
def fModel_aTwelfth_0 (D : va_G) (cA : FieldType → ClassId) (b : Nat) (E : State → Prop) (o : Nat) (n : Nat) (sh : Nat → qC) (Rf : Nat → Nat → Option Nat) (I : Nat → Nat → Int32) (L : Nat → Nat → Int64) (post : Option Value → qS → Prop) (x1 : Int32) : Prop :=
  Ev (qGG D cA b E) mModel_aTwelfth 1 (0, 0) 4 [(0, .ref o), (1, .int x1), (2, .int 0), (3, .int 0)] [] (n, sh, Rf, I, L) post
set_option maxHeartbeats 4000000 in
set_option maxRecDepth 20000 in
theorem sModel_aTwelfth_0 {D : va_G} {cA : FieldType → ClassId} {b : Nat} {E : State → Prop} (o : Nat) (n : Nat) (sh : Nat → qC) (Rf : Nat → Nat → Option Nat) (I : Nat → Nat → Int32) (L : Nat → Nat → Int64) (post : Option Value → qS → Prop) (x1 : Int32) (hok : q_ok (qGG D cA b E)) (hw : WfModel (qGG D cA b E) n sh Rf o) (H : fModel_aTwelfth_0 D cA b E o n sh Rf I L post x1) : Ev (qGG D cA b E) mModel_aTwelfth 1 (0, 0) 0 [(0, .ref o), (1, .int x1)] [] (n, sh, Rf, I, L) post := by
  unfold fModel_aTwelfth_0 at H
  refine ev_iconst (0) dModel_aTwelfth_0 (by decide) ?_
  refine ev_istore_n dModel_aTwelfth_1 (by decide) ?_
  refine ev_iconst (0) dModel_aTwelfth_2 (by decide) ?_
  refine ev_istore_n dModel_aTwelfth_3 (by decide) ?_
  exact ev_sub [(0, .ref o), (1, .int x1), (2, .int 0), (3, .int 0)] rfl H
def fModel_about_0 (D : va_G) (cA : FieldType → ClassId) (b : Nat) (E : State → Prop) (o : Nat) (n : Nat) (sh : Nat → qC) (Rf : Nat → Nat → Option Nat) (I : Nat → Nat → Int32) (L : Nat → Nat → Int64) (post : Option Value → qS → Prop) (x1 : Int32) : Prop :=
  ((x1 = (0 : Int32) → Ev (qGG D cA b E) mModel_forts 0 (0, 0) 0 (lv_args 0 [.ref o]) [] (n, sh, Rf, I, L) (fun v τ => ∃ (r2 : Int32) (I3 : Nat → Nat → Int32) (L4 : Nat → Nat → Int64), v = some (.int r2) ∧ τ = (n, sh, Rf, I3, L4) ∧ post (some (.int r2)) (n, sh, Rf, I3, L4))) ∧ (¬ x1 = (0 : Int32) → ((x1 = (1 : Int32) → Ev (qGG D cA b E) mModel_pans 0 (0, 0) 0 (lv_args 0 [.ref o]) [] (n, sh, Rf, I, L) (fun v τ => ∃ (r6 : Int32) (I7 : Nat → Nat → Int32) (L8 : Nat → Nat → Int64), v = some (.int r6) ∧ τ = (n, sh, Rf, I7, L8) ∧ post (some (.int r6)) (n, sh, Rf, I7, L8))) ∧ (¬ x1 = (1 : Int32) → ((x1 = (2 : Int32) → Ev (qGG D cA b E) mModel_towns 0 (0, 0) 0 (lv_args 0 [.ref o]) [] (n, sh, Rf, I, L) (fun v τ => ∃ (r10 : Int32) (I11 : Nat → Nat → Int32) (L12 : Nat → Nat → Int64), v = some (.int r10) ∧ τ = (n, sh, Rf, I11, L12) ∧ post (some (.int r10)) (n, sh, Rf, I11, L12))) ∧ (¬ x1 = (2 : Int32) → ((x1 = (3 : Int32) → vp_in (I o 34) 2 ∧ post (some (.int ((I (o + 6) ((I o 34) : Int32).toNatClampNeg)))) (n, sh, Rf, I, L)) ∧ (¬ x1 = (3 : Int32) → ((x1 = (4 : Int32) → post (some (.int ((I o 66)))) (n, sh, Rf, I, L)) ∧ (¬ x1 = (4 : Int32) → ((x1 = (5 : Int32) → post (some (.int ((I o 67)))) (n, sh, Rf, I, L)) ∧ (¬ x1 = (5 : Int32) → ((x1 = (6 : Int32) → post (some (.int ((I o 68)))) (n, sh, Rf, I, L)) ∧ (¬ x1 = (6 : Int32) → ((x1 = (7 : Int32) → post (some (.int ((I o 2)))) (n, sh, Rf, I, L)) ∧ (¬ x1 = (7 : Int32) → ((x1 < 10 → post (some (.int ((-1)))) (n, sh, Rf, I, L)) ∧ (¬ x1 < 10 → ((14 ≤ x1 → post (some (.int ((-1)))) (n, sh, Rf, I, L)) ∧ (¬ 14 ≤ x1 → vp_in (x1 - 10) 6 ∧ post (some (.int ((I (o + 29) ((x1 - 10) : Int32).toNatClampNeg)))) (n, sh, Rf, I, L)))))))))))))))))))))
set_option maxHeartbeats 4000000 in
set_option maxRecDepth 20000 in
theorem sModel_about_0 {D : va_G} {cA : FieldType → ClassId} {b : Nat} {E : State → Prop} (o : Nat) (n : Nat) (sh : Nat → qC) (Rf : Nat → Nat → Option Nat) (I : Nat → Nat → Int32) (L : Nat → Nat → Int64) (post : Option Value → qS → Prop) (x1 : Int32) (hok : q_ok (qGG D cA b E)) (hw : WfModel (qGG D cA b E) n sh Rf o) (H : fModel_about_0 D cA b E o n sh Rf I L post x1) : Ev (qGG D cA b E) mModel_about 1 (0, 0) 0 [(0, .ref o), (1, .int x1)] [] (n, sh, Rf, I, L) post := by
  unfold fModel_about_0 at H
  refine ev_iload_n dModel_about_0 rfl ?_
  rcases q_em (x1 = (0)) with c0 | c0
  · have H := H.1 c0
    refine ev_tableIn 48 dModel_about_1 (by rw [c0]; decide) (by rw [c0]; decide) (off := 47) (by rw [c0]; rfl) (by decide) ?_
    refine ev_aload_n dModel_about_48 rfl ?_
    refine ev_callV [] [] (B' := (0, 0)) (B'' := (0, 0)) hok mmModel_forts mk_Model_624 (ci := 12) rfl rfl (woModel hw) rfl (Nat.le_of_ble_eq_true rfl) rfl (Nat.le_of_ble_eq_true rfl) dModel_about_49 rfl (by decide) H (fun v τ p1 => ?_)
    obtain ⟨r2, I3, L4, rfl, rfl, H⟩ := p1
    exact ev_iret rfl dModel_about_52 H
  have H := H.2 c0
  rcases q_em (x1 = (1)) with c1 | c1
  · have H := H.1 c1
    refine ev_tableIn 53 dModel_about_1 (by rw [c1]; decide) (by rw [c1]; decide) (off := 52) (by rw [c1]; rfl) (by decide) ?_
    refine ev_aload_n dModel_about_53 rfl ?_
    refine ev_callV [] [] (B' := (0, 0)) (B'' := (0, 0)) hok mmModel_pans mk_Model_433 (ci := 12) rfl rfl (woModel hw) rfl (Nat.le_of_ble_eq_true rfl) rfl (Nat.le_of_ble_eq_true rfl) dModel_about_54 rfl (by decide) H (fun v τ p5 => ?_)
    obtain ⟨r6, I7, L8, rfl, rfl, H⟩ := p5
    exact ev_iret rfl dModel_about_57 H
  have H := H.2 c1
  rcases q_em (x1 = (2)) with c2 | c2
  · have H := H.1 c2
    refine ev_tableIn 58 dModel_about_1 (by rw [c2]; decide) (by rw [c2]; decide) (off := 57) (by rw [c2]; rfl) (by decide) ?_
    refine ev_aload_n dModel_about_58 rfl ?_
    refine ev_callV [] [] (B' := (0, 0)) (B'' := (0, 0)) hok mmModel_towns mk_Model_488 (ci := 12) rfl rfl (woModel hw) rfl (Nat.le_of_ble_eq_true rfl) rfl (Nat.le_of_ble_eq_true rfl) dModel_about_59 rfl (by decide) H (fun v τ p9 => ?_)
    obtain ⟨r10, I11, L12, rfl, rfl, H⟩ := p9
    exact ev_iret rfl dModel_about_62 H
  have H := H.2 c2
  rcases q_em (x1 = (3)) with c3 | c3
  · have H := H.1 c3
    refine ev_tableIn 63 dModel_about_1 (by rw [c3]; decide) (by rw [c3]; decide) (off := 62) (by rw [c3]; rfl) (by decide) ?_
    refine ev_aload_n dModel_about_63 rfl ?_
    refine ev_getR hok fk_Model_153 (woModel hw) (fun _ _ _ => rfl) (wrModel_15 hw) dModel_about_64 ?_
    refine ev_aload_n dModel_about_67 rfl ?_
    refine ev_getI hok fk_Model_147 (woModel hw) (fun _ _ _ => rfl) dModel_about_68 ?_
    obtain ⟨h13, H⟩ := H
    refine ev_iald hok (waModel_15 hw) h13 dModel_about_71 ?_
    exact ev_iret rfl dModel_about_72 H
  have H := H.2 c3
  rcases q_em (x1 = (4)) with c4 | c4
  · have H := H.1 c4
    refine ev_tableIn 73 dModel_about_1 (by rw [c4]; decide) (by rw [c4]; decide) (off := 72) (by rw [c4]; rfl) (by decide) ?_
    refine ev_aload_n dModel_about_73 rfl ?_
    refine ev_getI hok fk_Model_387 (woModel hw) (fun _ _ _ => rfl) dModel_about_74 ?_
    exact ev_iret rfl dModel_about_77 H
  have H := H.2 c4
  rcases q_em (x1 = (5)) with c5 | c5
  · have H := H.1 c5
    refine ev_tableIn 78 dModel_about_1 (by rw [c5]; decide) (by rw [c5]; decide) (off := 77) (by rw [c5]; rfl) (by decide) ?_
    refine ev_aload_n dModel_about_78 rfl ?_
    refine ev_getI hok fk_Model_169 (woModel hw) (fun _ _ _ => rfl) dModel_about_79 ?_
    exact ev_iret rfl dModel_about_82 H
  have H := H.2 c5
  rcases q_em (x1 = (6)) with c6 | c6
  · have H := H.1 c6
    refine ev_tableIn 83 dModel_about_1 (by rw [c6]; decide) (by rw [c6]; decide) (off := 82) (by rw [c6]; rfl) (by decide) ?_
    refine ev_aload_n dModel_about_83 rfl ?_
    refine ev_getI hok fk_Model_427 (woModel hw) (fun _ _ _ => rfl) dModel_about_84 ?_
    exact ev_iret rfl dModel_about_87 H
  have H := H.2 c6
  rcases q_em (x1 = (7)) with c7 | c7
  · have H := H.1 c7
    refine ev_tableIn 88 dModel_about_1 (by rw [c7]; decide) (by rw [c7]; decide) (off := 87) (by rw [c7]; rfl) (by decide) ?_
    refine ev_aload_n dModel_about_88 rfl ?_
    refine ev_getI hok fk_Model_137 (woModel hw) (fun _ _ _ => rfl) dModel_about_89 ?_
    exact ev_iret rfl dModel_about_92 H
  have H := H.2 c7
  refine ev_tableOut 93 dModel_about_1 (by have e0 : (0 : Int) ≠ (x1 : Int32).toInt := fun h => c0 (Int32.toInt_inj.mp (h.symm.trans (by decide))); have e1 : (1 : Int) ≠ (x1 : Int32).toInt := fun h => c1 (Int32.toInt_inj.mp (h.symm.trans (by decide))); have e2 : (2 : Int) ≠ (x1 : Int32).toInt := fun h => c2 (Int32.toInt_inj.mp (h.symm.trans (by decide))); have e3 : (3 : Int) ≠ (x1 : Int32).toInt := fun h => c3 (Int32.toInt_inj.mp (h.symm.trans (by decide))); have e4 : (4 : Int) ≠ (x1 : Int32).toInt := fun h => c4 (Int32.toInt_inj.mp (h.symm.trans (by decide))); have e5 : (5 : Int) ≠ (x1 : Int32).toInt := fun h => c5 (Int32.toInt_inj.mp (h.symm.trans (by decide))); have e6 : (6 : Int) ≠ (x1 : Int32).toInt := fun h => c6 (Int32.toInt_inj.mp (h.symm.trans (by decide))); have e7 : (7 : Int) ≠ (x1 : Int32).toInt := fun h => c7 (Int32.toInt_inj.mp (h.symm.trans (by decide))); omega) (by decide) ?_
  refine ev_iload_n dModel_about_93 rfl ?_
  refine ev_bipush (10) dModel_about_94 (by decide) ?_
  refine ev_icmp_lt 117 dModel_about_96 (by decide) (fun c14 => ?_) (fun c14 => ?_)
  · have H := H.1 c14
    refine ev_iconst (-1) dModel_about_117 (by decide) ?_
    exact ev_iret rfl dModel_about_118 H
  · have H := H.2 c14
    refine ev_iload_n dModel_about_99 rfl ?_
    refine ev_bipush (14) dModel_about_100 (by decide) ?_
    refine ev_icmp_ge 117 dModel_about_102 (by decide) (fun c15 => ?_) (fun c15 => ?_)
    · have H := H.1 c15
      refine ev_iconst (-1) dModel_about_117 (by decide) ?_
      exact ev_iret rfl dModel_about_118 H
    · have H := H.2 c15
      refine ev_aload_n dModel_about_105 rfl ?_
      refine ev_getR hok fk_Model_282 (woModel hw) (fun _ _ _ => rfl) (wrModel_40 hw) dModel_about_106 ?_
      refine ev_iload_n dModel_about_109 rfl ?_
      refine ev_bipush (10) dModel_about_110 (by decide) ?_
      refine ev_isub dModel_about_112 ?_
      obtain ⟨h16, H⟩ := H
      refine ev_iald hok (waModel_40 hw) h16 dModel_about_113 ?_
      refine ev_goto 118 dModel_about_114 (by decide) ?_
      exact ev_iret rfl dModel_about_118 H
def fModel_affordable_0 (D : va_G) (cA : FieldType → ClassId) (b : Nat) (E : State → Prop) (o : Nat) (n : Nat) (sh : Nat → qC) (Rf : Nat → Nat → Option Nat) (I : Nat → Nat → Int32) (L : Nat → Nat → Int64) (post : Option Value → qS → Prop) (x1 : Int32) (x2 : Int64) (x4 : Int32) : Prop :=
  ((¬ x4 = 0 → (¬ ((x4 : Int32).toInt64 : Int64) = 0) ∧ Ev (qGG D cA b E) mModel_least 0 (0, 0) 0 (lv_args 0 [.int x1, .long ((x2 / (x4 : Int32).toInt64))]) [] (n, sh, Rf, I, L) (fun v τ => ∃ (r4 : Int32) (I5 : Nat → Nat → Int32) (L6 : Nat → Nat → Int64), v = some (.int r4) ∧ τ = (n, sh, Rf, I5, L6) ∧ post (some (.int r4)) (n, sh, Rf, I5, L6))) ∧ (x4 = 0 → post (some (.int x1)) (n, sh, Rf, I, L)))
set_option maxHeartbeats 4000000 in
set_option maxRecDepth 20000 in
theorem sModel_affordable_0 {D : va_G} {cA : FieldType → ClassId} {b : Nat} {E : State → Prop} (o : Nat) (n : Nat) (sh : Nat → qC) (Rf : Nat → Nat → Option Nat) (I : Nat → Nat → Int32) (L : Nat → Nat → Int64) (post : Option Value → qS → Prop) (x1 : Int32) (x2 : Int64) (x4 : Int32) (hok : q_ok (qGG D cA b E)) (hw : WfModel (qGG D cA b E) n sh Rf o) (H : fModel_affordable_0 D cA b E o n sh Rf I L post x1 x2 x4) : Ev (qGG D cA b E) mModel_affordable 1 (0, 0) 0 [(0, .ref o), (1, .int x1), (2, .long x2), (4, .int x4)] [] (n, sh, Rf, I, L) post := by
  unfold fModel_affordable_0 at H
  refine ev_iload dModel_affordable_0 rfl ?_
  refine ev_if_ne 9 dModel_affordable_2 (by decide) (fun c1 => ?_) (fun c1 => ?_)
  · have H := H.1 c1
    refine ev_iload_n dModel_affordable_9 rfl ?_
    refine ev_lload_n dModel_affordable_10 rfl ?_
    refine ev_iload dModel_affordable_11 rfl ?_
    refine ev_i2l dModel_affordable_13 ?_
    obtain ⟨h2, H⟩ := H
    refine ev_ldiv dModel_affordable_14 h2 ?_
    refine ev_callS [.int x1, .long ((x2 / (x4 : Int32).toInt64))] [] (B' := (0, 0)) (B'' := (0, 0)) hok mmModel_least mk_Model_651 rfl (Nat.le_of_ble_eq_true rfl) rfl (Nat.le_of_ble_eq_true rfl) dModel_affordable_15 rfl (by decide) H (fun v τ p3 => ?_)
    obtain ⟨r4, I5, L6, rfl, rfl, H⟩ := p3
    exact ev_iret rfl dModel_affordable_18 H
  · have H := H.2 c1
    refine ev_iload_n dModel_affordable_5 rfl ?_
    refine ev_goto 18 dModel_affordable_6 (by decide) ?_
    exact ev_iret rfl dModel_affordable_18 H
def fModel_book_0 (D : va_G) (cA : FieldType → ClassId) (b : Nat) (E : State → Prop) (o : Nat) (n : Nat) (sh : Nat → qC) (Rf : Nat → Nat → Option Nat) (I : Nat → Nat → Int32) (L : Nat → Nat → Int64) (post : Option Value → qS → Prop) (x1 : Int32) (x2 : Int32) (x3 : Int32) : Prop :=
  Ev (qGG D cA b E) mModel_isRanMonth 0 (0, 0) 0 (lv_args 0 [.ref o, .int x2]) [] (n, sh, Rf, I, L) (fun v τ => ∃ (r2 : Int32) (I3 : Nat → Nat → Int32) (L4 : Nat → Nat → Int64), v = some (.int r2) ∧ τ = (n, sh, Rf, I3, L4) ∧ ((r2 = 0 → post (some (.long ((-1)))) (n, sh, Rf, I3, L4)) ∧ (¬ r2 = 0 → Ev (qGG D cA b E) mModel_isIn 0 (0, 0) 0 (lv_args 0 [.int x1, .int 0, .int (((I3 o 137) - 1))]) [] (n, sh, Rf, I3, L4) (fun v τ => ∃ (r7 : Int32) (I8 : Nat → Nat → Int32) (L9 : Nat → Nat → Int64), v = some (.int r7) ∧ τ = (n, sh, Rf, I8, L9) ∧ ((¬ r7 = 0 → ((¬ x3 = 0 → ((¬ x3 = 1 → ((¬ x3 = 2 → post (some (.long ((-1)))) (n, sh, Rf, I8, L9)) ∧ (x3 = 2 → vp_in ((6 * x2) + x1) 1440 ∧ post (some (.long ((L9 (o + 76) (((6 * x2) + x1) : Int32).toNatClampNeg)))) (n, sh, Rf, I8, L9)))) ∧ (x3 = 1 → vp_in ((6 * x2) + x1) 1440 ∧ post (some (.long (((I8 (o + 74) (((6 * x2) + x1) : Int32).toNatClampNeg) : Int32).toInt64))) (n, sh, Rf, I8, L9)))) ∧ (x3 = 0 → vp_in ((6 * x2) + x1) 1440 ∧ post (some (.long ((L9 (o + 75) (((6 * x2) + x1) : Int32).toNatClampNeg)))) (n, sh, Rf, I8, L9)))) ∧ (r7 = 0 → post (some (.long ((-1)))) (n, sh, Rf, I8, L9)))))))
set_option maxHeartbeats 4000000 in
set_option maxRecDepth 20000 in
theorem sModel_book_0 {D : va_G} {cA : FieldType → ClassId} {b : Nat} {E : State → Prop} (o : Nat) (n : Nat) (sh : Nat → qC) (Rf : Nat → Nat → Option Nat) (I : Nat → Nat → Int32) (L : Nat → Nat → Int64) (post : Option Value → qS → Prop) (x1 : Int32) (x2 : Int32) (x3 : Int32) (hok : q_ok (qGG D cA b E)) (hw : WfModel (qGG D cA b E) n sh Rf o) (H : fModel_book_0 D cA b E o n sh Rf I L post x1 x2 x3) : Ev (qGG D cA b E) mModel_book 1 (0, 0) 0 [(0, .ref o), (1, .int x1), (2, .int x2), (3, .int x3)] [] (n, sh, Rf, I, L) post := by
  unfold fModel_book_0 at H
  refine ev_aload_n dModel_book_0 rfl ?_
  refine ev_iload_n dModel_book_1 rfl ?_
  refine ev_callV [.int x2] [] (B' := (0, 0)) (B'' := (0, 0)) hok mmModel_isRanMonth mk_Model_780 (ci := 12) rfl rfl (woModel hw) rfl (Nat.le_of_ble_eq_true rfl) rfl (Nat.le_of_ble_eq_true rfl) dModel_book_2 rfl (by decide) H (fun v τ p1 => ?_)
  obtain ⟨r2, I3, L4, rfl, rfl, H⟩ := p1
  refine ev_if_eq 22 dModel_book_5 (by decide) (fun c5 => ?_) (fun c5 => ?_)
  · have H := H.1 c5
    refine ev_ldc2 (-1) dModel_book_22 (q_t8 152 (by decide +kernel) rfl) ?_
    exact ev_lret rfl dModel_book_25 H
  · have H := H.2 c5
    refine ev_iload_n dModel_book_8 rfl ?_
    refine ev_iconst (0) dModel_book_9 (by decide) ?_
    refine ev_aload_n dModel_book_10 rfl ?_
    refine ev_getI hok fk_Model_769 (woModel hw) (fun _ _ _ => rfl) dModel_book_11 ?_
    refine ev_iconst (1) dModel_book_14 (by decide) ?_
    refine ev_isub dModel_book_15 ?_
    refine ev_callS [.int x1, .int 0, .int (((I3 o 137) - 1))] [] (B' := (0, 0)) (B'' := (0, 0)) hok mmModel_isIn mk_Model_393 rfl (Nat.le_of_ble_eq_true rfl) rfl (Nat.le_of_ble_eq_true rfl) dModel_book_16 rfl (by decide) H (fun v τ p6 => ?_)
    obtain ⟨r7, I8, L9, rfl, rfl, H⟩ := p6
    refine ev_if_ne 26 dModel_book_19 (by decide) (fun c10 => ?_) (fun c10 => ?_)
    · have H := H.1 c10
      refine ev_iload_n dModel_book_26 rfl ?_
      refine ev_if_ne 44 dModel_book_27 (by decide) (fun c11 => ?_) (fun c11 => ?_)
      · have H := H.1 c11
        refine ev_iload_n dModel_book_44 rfl ?_
        refine ev_iconst (1) dModel_book_45 (by decide) ?_
        refine ev_icmp_ne 64 dModel_book_46 (by decide) (fun c12 => ?_) (fun c12 => ?_)
        · have H := H.1 c12
          refine ev_iload_n dModel_book_64 rfl ?_
          refine ev_iconst (2) dModel_book_65 (by decide) ?_
          refine ev_icmp_ne 83 dModel_book_66 (by decide) (fun c13 => ?_) (fun c13 => ?_)
          · have H := H.1 c13
            refine ev_ldc2 (-1) dModel_book_83 (q_t8 152 (by decide +kernel) rfl) ?_
            exact ev_lret rfl dModel_book_86 H
          · have H := H.2 c13
            refine ev_aload_n dModel_book_69 rfl ?_
            refine ev_getR hok fk_Model_760 (woModel hw) (fun _ _ _ => rfl) (wrModel_134 hw) dModel_book_70 ?_
            refine ev_bipush (6) dModel_book_73 (by decide) ?_
            refine ev_iload_n dModel_book_75 rfl ?_
            refine ev_imul dModel_book_76 ?_
            refine ev_iload_n dModel_book_77 rfl ?_
            refine ev_iadd dModel_book_78 ?_
            obtain ⟨h14, H⟩ := H
            refine ev_lald hok (waModel_134 hw) h14 dModel_book_79 ?_
            refine ev_goto 86 dModel_book_80 (by decide) ?_
            exact ev_lret rfl dModel_book_86 H
        · have H := H.2 c12
          refine ev_aload_n dModel_book_49 rfl ?_
          refine ev_getR hok fk_Model_757 (woModel hw) (fun _ _ _ => rfl) (wrModel_132 hw) dModel_book_50 ?_
          refine ev_bipush (6) dModel_book_53 (by decide) ?_
          refine ev_iload_n dModel_book_55 rfl ?_
          refine ev_imul dModel_book_56 ?_
          refine ev_iload_n dModel_book_57 rfl ?_
          refine ev_iadd dModel_book_58 ?_
          obtain ⟨h15, H⟩ := H
          refine ev_iald hok (waModel_132 hw) h15 dModel_book_59 ?_
          refine ev_i2l dModel_book_60 ?_
          refine ev_goto 86 dModel_book_61 (by decide) ?_
          exact ev_lret rfl dModel_book_86 H
      · have H := H.2 c11
        refine ev_aload_n dModel_book_30 rfl ?_
        refine ev_getR hok fk_Model_754 (woModel hw) (fun _ _ _ => rfl) (wrModel_133 hw) dModel_book_31 ?_
        refine ev_bipush (6) dModel_book_34 (by decide) ?_
        refine ev_iload_n dModel_book_36 rfl ?_
        refine ev_imul dModel_book_37 ?_
        refine ev_iload_n dModel_book_38 rfl ?_
        refine ev_iadd dModel_book_39 ?_
        obtain ⟨h16, H⟩ := H
        refine ev_lald hok (waModel_133 hw) h16 dModel_book_40 ?_
        refine ev_goto 86 dModel_book_41 (by decide) ?_
        exact ev_lret rfl dModel_book_86 H
    · have H := H.2 c10
      refine ev_ldc2 (-1) dModel_book_22 (q_t8 152 (by decide +kernel) rfl) ?_
      exact ev_lret rfl dModel_book_25 H
def fModel_bury_189 (D : va_G) (cA : FieldType → ClassId) (b : Nat) (E : State → Prop) (o : Nat) (n : Nat) (sh : Nat → qC) (Rf : Nat → Nat → Option Nat) (I : Nat → Nat → Int32) (L : Nat → Nat → Int64) (post : Option Value → qS → Prop) (x1 : Int32) (x2 : Int32) (x3 : Int32) : Prop :=
  ((3 ≤ x3 → post none (n, sh, Rf, I, L)) ∧ (¬ 3 ≤ x3 → vp_in ((3 * x1) + x3) 18 ∧ ∀ I2 : Nat → Nat → Int32, q_u I (o + 48) (((3 * x1) + x3) : Int32).toNatClampNeg (-1) = I2 → Ev (qGG D cA b E) mModel_bury 1 (0, 0) 189 [(0, .ref o), (1, .int x1), (2, .int x2), (3, .int ((x3 + Int32.ofInt 1)))] [] (n, sh, Rf, I2, L) post))
set_option maxHeartbeats 4000000 in
set_option maxRecDepth 20000 in
theorem sModel_bury_189 {D : va_G} {cA : FieldType → ClassId} {b : Nat} {E : State → Prop} (o : Nat) (n : Nat) (sh : Nat → qC) (Rf : Nat → Nat → Option Nat) (I : Nat → Nat → Int32) (L : Nat → Nat → Int64) (post : Option Value → qS → Prop) (x1 : Int32) (x2 : Int32) (x3 : Int32) (hok : q_ok (qGG D cA b E)) (hw : WfModel (qGG D cA b E) n sh Rf o) (H : fModel_bury_189 D cA b E o n sh Rf I L post x1 x2 x3) : Ev (qGG D cA b E) mModel_bury 1 (0, 0) 189 [(0, .ref o), (1, .int x1), (2, .int x2), (3, .int x3)] [] (n, sh, Rf, I, L) post := by
  unfold fModel_bury_189 at H
  refine ev_iload_n dModel_bury_189 rfl ?_
  refine ev_iconst (3) dModel_bury_190 (by decide) ?_
  refine ev_icmp_ge 211 dModel_bury_191 (by decide) (fun c1 => ?_) (fun c1 => ?_)
  · have H := H.1 c1
    exact ev_vret rfl dModel_bury_211 H
  · have H := H.2 c1
    refine ev_aload_n dModel_bury_194 rfl ?_
    refine ev_getR hok fk_Model_584 (woModel hw) (fun _ _ _ => rfl) (wrModel_81 hw) dModel_bury_195 ?_
    refine ev_iconst (3) dModel_bury_198 (by decide) ?_
    refine ev_iload_n dModel_bury_199 rfl ?_
    refine ev_imul dModel_bury_200 ?_
    refine ev_iload_n dModel_bury_201 rfl ?_
    refine ev_iadd dModel_bury_202 ?_
    refine ev_iconst (-1) dModel_bury_203 (by decide) ?_
    obtain ⟨h3, H⟩ := H
    refine ev_iast hok (waModel_81 hw) h3 dModel_bury_204 ?_
    generalize eI2 : q_u I (o + 48) (((3 * x1) + x3) : Int32).toNatClampNeg (-1) = I2
    have H := H I2 eI2
    refine ev_iinc dModel_bury_205 rfl (by decide) ?_
    refine ev_goto 189 dModel_bury_208 (by decide) ?_
    exact ev_sub [(0, .ref o), (1, .int x1), (2, .int x2), (3, .int ((x3 + Int32.ofInt 1)))] rfl H
def fModel_bury_181 (D : va_G) (cA : FieldType → ClassId) (b : Nat) (E : State → Prop) (o : Nat) (n : Nat) (sh : Nat → qC) (Rf : Nat → Nat → Option Nat) (I : Nat → Nat → Int32) (L : Nat → Nat → Int64) (post : Option Value → qS → Prop) (x1 : Int32) (x2 : Int32) (x3 : Int32) : Prop :=
  Ev (qGG D cA b E) mModel_bury 1 (0, 0) 143 [(0, .ref o), (1, .int x1), (2, .int x2), (3, .int ((x3 + Int32.ofInt 1)))] [] (n, sh, Rf, I, L) post
set_option maxHeartbeats 4000000 in
set_option maxRecDepth 20000 in
theorem sModel_bury_181 {D : va_G} {cA : FieldType → ClassId} {b : Nat} {E : State → Prop} (o : Nat) (n : Nat) (sh : Nat → qC) (Rf : Nat → Nat → Option Nat) (I : Nat → Nat → Int32) (L : Nat → Nat → Int64) (post : Option Value → qS → Prop) (x1 : Int32) (x2 : Int32) (x3 : Int32) (hok : q_ok (qGG D cA b E)) (hw : WfModel (qGG D cA b E) n sh Rf o) (H : fModel_bury_181 D cA b E o n sh Rf I L post x1 x2 x3) : Ev (qGG D cA b E) mModel_bury 1 (0, 0) 181 [(0, .ref o), (1, .int x1), (2, .int x2), (3, .int x3)] [] (n, sh, Rf, I, L) post := by
  unfold fModel_bury_181 at H
  refine ev_iinc dModel_bury_181 rfl (by decide) ?_
  refine ev_goto 143 dModel_bury_184 (by decide) ?_
  exact ev_sub [(0, .ref o), (1, .int x1), (2, .int x2), (3, .int ((x3 + Int32.ofInt 1)))] rfl H
def fModel_bury_143 (D : va_G) (cA : FieldType → ClassId) (b : Nat) (E : State → Prop) (o : Nat) (n : Nat) (sh : Nat → qC) (Rf : Nat → Nat → Option Nat) (I : Nat → Nat → Int32) (L : Nat → Nat → Int64) (post : Option Value → qS → Prop) (x1 : Int32) (x2 : Int32) (x3 : Int32) : Prop :=
  (((I o 105) ≤ x3 → Ev (qGG D cA b E) mModel_bury 1 (0, 0) 189 [(0, .ref o), (1, .int x1), (2, .int x2), (3, .int 0)] [] (n, sh, Rf, I, L) post) ∧ (¬ (I o 105) ≤ x3 → vp_in x3 4000 ∧ ((¬ (I (o + 58) (x3 : Int32).toNatClampNeg) = x1 → fModel_bury_181 D cA b E o n sh Rf I L post x1 x2 x3) ∧ ((I (o + 58) (x3 : Int32).toNatClampNeg) = x1 → vp_in x3 4000 ∧ (((I (o + 59) (x3 : Int32).toNatClampNeg) < (I o 57) → fModel_bury_181 D cA b E o n sh Rf I L post x1 x2 x3) ∧ (¬ (I (o + 59) (x3 : Int32).toNatClampNeg) < (I o 57) → vp_in x3 4000 ∧ ∀ I6 : Nat → Nat → Int32, q_u I (o + 58) (x3 : Int32).toNatClampNeg x2 = I6 → fModel_bury_181 D cA b E o n sh Rf I6 L post x1 x2 x3))))))
set_option maxHeartbeats 4000000 in
set_option maxRecDepth 20000 in
theorem sModel_bury_143 {D : va_G} {cA : FieldType → ClassId} {b : Nat} {E : State → Prop} (o : Nat) (n : Nat) (sh : Nat → qC) (Rf : Nat → Nat → Option Nat) (I : Nat → Nat → Int32) (L : Nat → Nat → Int64) (post : Option Value → qS → Prop) (x1 : Int32) (x2 : Int32) (x3 : Int32) (hok : q_ok (qGG D cA b E)) (hw : WfModel (qGG D cA b E) n sh Rf o) (H : fModel_bury_143 D cA b E o n sh Rf I L post x1 x2 x3) : Ev (qGG D cA b E) mModel_bury 1 (0, 0) 143 [(0, .ref o), (1, .int x1), (2, .int x2), (3, .int x3)] [] (n, sh, Rf, I, L) post := by
  unfold fModel_bury_143 at H
  refine ev_iload_n dModel_bury_143 rfl ?_
  refine ev_aload_n dModel_bury_144 rfl ?_
  refine ev_getI hok fk_Model_548 (woModel hw) (fun _ _ _ => rfl) dModel_bury_145 ?_
  refine ev_icmp_ge 187 dModel_bury_148 (by decide) (fun c1 => ?_) (fun c1 => ?_)
  · have H := H.1 c1
    refine ev_iconst (0) dModel_bury_187 (by decide) ?_
    refine ev_istore_n dModel_bury_188 (by decide) ?_
    exact ev_sub [(0, .ref o), (1, .int x1), (2, .int x2), (3, .int 0)] rfl H
  · have H := H.2 c1
    refine ev_aload_n dModel_bury_151 rfl ?_
    refine ev_getR hok fk_Model_545 (woModel hw) (fun _ _ _ => rfl) (wrModel_91 hw) dModel_bury_152 ?_
    refine ev_iload_n dModel_bury_155 rfl ?_
    obtain ⟨h2, H⟩ := H
    refine ev_iald hok (waModel_91 hw) h2 dModel_bury_156 ?_
    refine ev_iload_n dModel_bury_157 rfl ?_
    refine ev_icmp_ne 181 dModel_bury_158 (by decide) (fun c3 => ?_) (fun c3 => ?_)
    · have H := H.1 c3
      exact ev_sub [(0, .ref o), (1, .int x1), (2, .int x2), (3, .int x3)] rfl (sModel_bury_181 o n sh Rf I L post x1 x2 x3 hok hw H)
    · have H := H.2 c3
      refine ev_aload_n dModel_bury_161 rfl ?_
      refine ev_getR hok fk_Model_551 (woModel hw) (fun _ _ _ => rfl) (wrModel_92 hw) dModel_bury_162 ?_
      refine ev_iload_n dModel_bury_165 rfl ?_
      obtain ⟨h4, H⟩ := H
      refine ev_iald hok (waModel_92 hw) h4 dModel_bury_166 ?_
      refine ev_aload_n dModel_bury_167 rfl ?_
      refine ev_getI hok fk_Model_348 (woModel hw) (fun _ _ _ => rfl) dModel_bury_168 ?_
      refine ev_icmp_lt 181 dModel_bury_171 (by decide) (fun c5 => ?_) (fun c5 => ?_)
      · have H := H.1 c5
        exact ev_sub [(0, .ref o), (1, .int x1), (2, .int x2), (3, .int x3)] rfl (sModel_bury_181 o n sh Rf I L post x1 x2 x3 hok hw H)
      · have H := H.2 c5
        refine ev_aload_n dModel_bury_174 rfl ?_
        refine ev_getR hok fk_Model_545 (woModel hw) (fun _ _ _ => rfl) (wrModel_91 hw) dModel_bury_175 ?_
        refine ev_iload_n dModel_bury_178 rfl ?_
        refine ev_iload_n dModel_bury_179 rfl ?_
        obtain ⟨h7, H⟩ := H
        refine ev_iast hok (waModel_91 hw) h7 dModel_bury_180 ?_
        generalize eI6 : q_u I (o + 58) (x3 : Int32).toNatClampNeg x2 = I6
        have H := H I6 eI6
        exact ev_sub [(0, .ref o), (1, .int x1), (2, .int x2), (3, .int x3)] rfl (sModel_bury_181 o n sh Rf I6 L post x1 x2 x3 hok hw H)
def fModel_bury_135 (D : va_G) (cA : FieldType → ClassId) (b : Nat) (E : State → Prop) (o : Nat) (n : Nat) (sh : Nat → qC) (Rf : Nat → Nat → Option Nat) (I : Nat → Nat → Int32) (L : Nat → Nat → Int64) (post : Option Value → qS → Prop) (x1 : Int32) (x2 : Int32) (x3 : Int32) : Prop :=
  Ev (qGG D cA b E) mModel_bury 1 (0, 0) 84 [(0, .ref o), (1, .int x1), (2, .int x2), (3, .int ((x3 + Int32.ofInt 1)))] [] (n, sh, Rf, I, L) post
set_option maxHeartbeats 4000000 in
set_option maxRecDepth 20000 in
theorem sModel_bury_135 {D : va_G} {cA : FieldType → ClassId} {b : Nat} {E : State → Prop} (o : Nat) (n : Nat) (sh : Nat → qC) (Rf : Nat → Nat → Option Nat) (I : Nat → Nat → Int32) (L : Nat → Nat → Int64) (post : Option Value → qS → Prop) (x1 : Int32) (x2 : Int32) (x3 : Int32) (hok : q_ok (qGG D cA b E)) (hw : WfModel (qGG D cA b E) n sh Rf o) (H : fModel_bury_135 D cA b E o n sh Rf I L post x1 x2 x3) : Ev (qGG D cA b E) mModel_bury 1 (0, 0) 135 [(0, .ref o), (1, .int x1), (2, .int x2), (3, .int x3)] [] (n, sh, Rf, I, L) post := by
  unfold fModel_bury_135 at H
  refine ev_iinc dModel_bury_135 rfl (by decide) ?_
  refine ev_goto 84 dModel_bury_138 (by decide) ?_
  exact ev_sub [(0, .ref o), (1, .int x1), (2, .int x2), (3, .int ((x3 + Int32.ofInt 1)))] rfl H
def fModel_bury_134 (D : va_G) (cA : FieldType → ClassId) (b : Nat) (E : State → Prop) (o : Nat) (n : Nat) (sh : Nat → qC) (Rf : Nat → Nat → Option Nat) (I : Nat → Nat → Int32) (L : Nat → Nat → Int64) (post : Option Value → qS → Prop) (x1 : Int32) (x2 : Int32) (x3 : Int32) (z0 : Int32) (z1 : Int32) : Prop :=
  vp_in z1 2000 ∧ ∀ I1 : Nat → Nat → Int32, q_u I (o + 66) (z1 : Int32).toNatClampNeg (vp_nar .boolean z0) = I1 → fModel_bury_135 D cA b E o n sh Rf I1 L post x1 x2 x3
set_option maxHeartbeats 4000000 in
set_option maxRecDepth 20000 in
theorem sModel_bury_134 {D : va_G} {cA : FieldType → ClassId} {b : Nat} {E : State → Prop} (o : Nat) (n : Nat) (sh : Nat → qC) (Rf : Nat → Nat → Option Nat) (I : Nat → Nat → Int32) (L : Nat → Nat → Int64) (post : Option Value → qS → Prop) (x1 : Int32) (x2 : Int32) (x3 : Int32) (z0 : Int32) (z1 : Int32) (hok : q_ok (qGG D cA b E)) (hw : WfModel (qGG D cA b E) n sh Rf o) (H : fModel_bury_134 D cA b E o n sh Rf I L post x1 x2 x3 z0 z1) : Ev (qGG D cA b E) mModel_bury 1 (0, 0) 134 [(0, .ref o), (1, .int x1), (2, .int x2), (3, .int x3)] [.int z0, .int z1, .ref ((o + 66))] (n, sh, Rf, I, L) post := by
  unfold fModel_bury_134 at H
  obtain ⟨h2, H⟩ := H
  refine ev_zast hok (waModel_99 hw) h2 dModel_bury_134 ?_
  generalize eI1 : q_u I (o + 66) (z1 : Int32).toNatClampNeg (vp_nar .boolean z0) = I1
  have H := H I1 eI1
  exact ev_sub [(0, .ref o), (1, .int x1), (2, .int x2), (3, .int x3)] rfl (sModel_bury_135 o n sh Rf I1 L post x1 x2 x3 hok hw H)
def fModel_bury_84 (D : va_G) (cA : FieldType → ClassId) (b : Nat) (E : State → Prop) (o : Nat) (n : Nat) (sh : Nat → qC) (Rf : Nat → Nat → Option Nat) (I : Nat → Nat → Int32) (L : Nat → Nat → Int64) (post : Option Value → qS → Prop) (x1 : Int32) (x2 : Int32) (x3 : Int32) : Prop :=
  (((I o 104) ≤ x3 → Ev (qGG D cA b E) mModel_bury 1 (0, 0) 143 [(0, .ref o), (1, .int x1), (2, .int x2), (3, .int 0)] [] (n, sh, Rf, I, L) post) ∧ (¬ (I o 104) ≤ x3 → vp_in x3 2000 ∧ ((¬ (I (o + 51) (x3 : Int32).toNatClampNeg) = x1 → fModel_bury_135 D cA b E o n sh Rf I L post x1 x2 x3) ∧ ((I (o + 51) (x3 : Int32).toNatClampNeg) = x1 → Ev (qGG D cA b E) mModel_waits 0 (0, 0) 0 (lv_args 0 [.ref o, .int x3]) [] (n, sh, Rf, I, L) (fun v τ => ∃ (r5 : Int32) (I6 : Nat → Nat → Int32) (L7 : Nat → Nat → Int64), v = some (.int r5) ∧ τ = (n, sh, Rf, I6, L7) ∧ ((¬ r5 = 0 → vp_in x3 2000 ∧ ∀ I9 : Nat → Nat → Int32, q_u I6 (o + 51) (x3 : Int32).toNatClampNeg x2 = I9 → ((0 ≤ x2 → fModel_bury_134 D cA b E o n sh Rf I9 L7 post x1 x2 x3 0 x3) ∧ (¬ 0 ≤ x2 → fModel_bury_134 D cA b E o n sh Rf I9 L7 post x1 x2 x3 1 x3))) ∧ (r5 = 0 → fModel_bury_135 D cA b E o n sh Rf I6 L7 post x1 x2 x3)))))))
set_option maxHeartbeats 4000000 in
set_option maxRecDepth 20000 in
theorem sModel_bury_84 {D : va_G} {cA : FieldType → ClassId} {b : Nat} {E : State → Prop} (o : Nat) (n : Nat) (sh : Nat → qC) (Rf : Nat → Nat → Option Nat) (I : Nat → Nat → Int32) (L : Nat → Nat → Int64) (post : Option Value → qS → Prop) (x1 : Int32) (x2 : Int32) (x3 : Int32) (hok : q_ok (qGG D cA b E)) (hw : WfModel (qGG D cA b E) n sh Rf o) (H : fModel_bury_84 D cA b E o n sh Rf I L post x1 x2 x3) : Ev (qGG D cA b E) mModel_bury 1 (0, 0) 84 [(0, .ref o), (1, .int x1), (2, .int x2), (3, .int x3)] [] (n, sh, Rf, I, L) post := by
  unfold fModel_bury_84 at H
  refine ev_iload_n dModel_bury_84 rfl ?_
  refine ev_aload_n dModel_bury_85 rfl ?_
  refine ev_getI hok fk_Model_454 (woModel hw) (fun _ _ _ => rfl) dModel_bury_86 ?_
  refine ev_icmp_ge 141 dModel_bury_89 (by decide) (fun c1 => ?_) (fun c1 => ?_)
  · have H := H.1 c1
    refine ev_iconst (0) dModel_bury_141 (by decide) ?_
    refine ev_istore_n dModel_bury_142 (by decide) ?_
    exact ev_sub [(0, .ref o), (1, .int x1), (2, .int x2), (3, .int 0)] rfl H
  · have H := H.2 c1
    refine ev_aload_n dModel_bury_92 rfl ?_
    refine ev_getR hok fk_Model_525 (woModel hw) (fun _ _ _ => rfl) (wrModel_84 hw) dModel_bury_93 ?_
    refine ev_iload_n dModel_bury_96 rfl ?_
    obtain ⟨h2, H⟩ := H
    refine ev_iald hok (waModel_84 hw) h2 dModel_bury_97 ?_
    refine ev_iload_n dModel_bury_98 rfl ?_
    refine ev_icmp_ne 135 dModel_bury_99 (by decide) (fun c3 => ?_) (fun c3 => ?_)
    · have H := H.1 c3
      exact ev_sub [(0, .ref o), (1, .int x1), (2, .int x2), (3, .int x3)] rfl (sModel_bury_135 o n sh Rf I L post x1 x2 x3 hok hw H)
    · have H := H.2 c3
      refine ev_aload_n dModel_bury_102 rfl ?_
      refine ev_iload_n dModel_bury_103 rfl ?_
      refine ev_callV [.int x3] [] (B' := (0, 0)) (B'' := (0, 0)) hok mmModel_waits mk_Model_460 (ci := 12) rfl rfl (woModel hw) rfl (Nat.le_of_ble_eq_true rfl) rfl (Nat.le_of_ble_eq_true rfl) dModel_bury_104 rfl (by decide) H (fun v τ p4 => ?_)
      obtain ⟨r5, I6, L7, rfl, rfl, H⟩ := p4
      refine ev_if_ne 113 dModel_bury_107 (by decide) (fun c8 => ?_) (fun c8 => ?_)
      · have H := H.1 c8
        refine ev_aload_n dModel_bury_113 rfl ?_
        refine ev_getR hok fk_Model_525 (woModel hw) (fun _ _ _ => rfl) (wrModel_84 hw) dModel_bury_114 ?_
        refine ev_iload_n dModel_bury_117 rfl ?_
        refine ev_iload_n dModel_bury_118 rfl ?_
        obtain ⟨h10, H⟩ := H
        refine ev_iast hok (waModel_84 hw) h10 dModel_bury_119 ?_
        generalize eI9 : q_u I6 (o + 51) (x3 : Int32).toNatClampNeg x2 = I9
        have H := H I9 eI9
        refine ev_aload_n dModel_bury_120 rfl ?_
        refine ev_getR hok fk_Model_450 (woModel hw) (fun _ _ _ => rfl) (wrModel_99 hw) dModel_bury_121 ?_
        refine ev_iload_n dModel_bury_124 rfl ?_
        refine ev_iload_n dModel_bury_125 rfl ?_
        refine ev_if_ge 133 dModel_bury_126 (by decide) (fun c11 => ?_) (fun c11 => ?_)
        · have H := H.1 c11
          refine ev_iconst (0) dModel_bury_133 (by decide) ?_
          exact ev_sub [(0, .ref o), (1, .int x1), (2, .int x2), (3, .int x3)] rfl (sModel_bury_134 o n sh Rf I9 L7 post x1 x2 x3 0 x3 hok hw H)
        · have H := H.2 c11
          refine ev_iconst (1) dModel_bury_129 (by decide) ?_
          refine ev_goto 134 dModel_bury_130 (by decide) ?_
          exact ev_sub [(0, .ref o), (1, .int x1), (2, .int x2), (3, .int x3)] rfl (sModel_bury_134 o n sh Rf I9 L7 post x1 x2 x3 1 x3 hok hw H)
      · have H := H.2 c8
        refine ev_goto 135 dModel_bury_110 (by decide) ?_
        exact ev_sub [(0, .ref o), (1, .int x1), (2, .int x2), (3, .int x3)] rfl (sModel_bury_135 o n sh Rf I6 L7 post x1 x2 x3 hok hw H)
def fModel_bury_75 (D : va_G) (cA : FieldType → ClassId) (b : Nat) (E : State → Prop) (o : Nat) (n : Nat) (sh : Nat → qC) (Rf : Nat → Nat → Option Nat) (I : Nat → Nat → Int32) (L : Nat → Nat → Int64) (post : Option Value → qS → Prop) (x1 : Int32) (x2 : Int32) : Prop :=
  vp_in x1 6 ∧ ∀ L1 : Nat → Nat → Int64, q_u L (o + 68) (x1 : Int32).toNatClampNeg 0 = L1 → Ev (qGG D cA b E) mModel_bury 1 (0, 0) 84 [(0, .ref o), (1, .int x1), (2, .int x2), (3, .int 0)] [] (n, sh, Rf, I, L1) post
set_option maxHeartbeats 4000000 in
set_option maxRecDepth 20000 in
theorem sModel_bury_75 {D : va_G} {cA : FieldType → ClassId} {b : Nat} {E : State → Prop} (o : Nat) (n : Nat) (sh : Nat → qC) (Rf : Nat → Nat → Option Nat) (I : Nat → Nat → Int32) (L : Nat → Nat → Int64) (post : Option Value → qS → Prop) (x1 : Int32) (x2 : Int32) (hok : q_ok (qGG D cA b E)) (hw : WfModel (qGG D cA b E) n sh Rf o) (H : fModel_bury_75 D cA b E o n sh Rf I L post x1 x2) : Ev (qGG D cA b E) mModel_bury 1 (0, 0) 75 [(0, .ref o), (1, .int x1), (2, .int x2)] [] (n, sh, Rf, I, L) post := by
  unfold fModel_bury_75 at H
  refine ev_aload_n dModel_bury_75 rfl ?_
  refine ev_getR hok fk_Model_578 (woModel hw) (fun _ _ _ => rfl) (wrModel_101 hw) dModel_bury_76 ?_
  refine ev_iload_n dModel_bury_79 rfl ?_
  refine ev_lconst 0 dModel_bury_80 (by decide) ?_
  obtain ⟨h2, H⟩ := H
  refine ev_last hok (waModel_101 hw) h2 dModel_bury_81 ?_
  generalize eL1 : q_u L (o + 68) (x1 : Int32).toNatClampNeg 0 = L1
  have H := H L1 eL1
  refine ev_iconst (0) dModel_bury_82 (by decide) ?_
  refine ev_istore_n dModel_bury_83 (by decide) ?_
  exact ev_sub [(0, .ref o), (1, .int x1), (2, .int x2), (3, .int 0)] rfl H
def fModel_bury_37 (D : va_G) (cA : FieldType → ClassId) (b : Nat) (E : State → Prop) (o : Nat) (n : Nat) (sh : Nat → qC) (Rf : Nat → Nat → Option Nat) (I : Nat → Nat → Int32) (L : Nat → Nat → Int64) (post : Option Value → qS → Prop) (x1 : Int32) (z0 : Int32) : Prop :=
  ((z0 < 0 → vp_in x1 6 ∧ ∀ L3 : Nat → Nat → Int64, q_u L o 114 ((L o 114) + (L (o + 68) (x1 : Int32).toNatClampNeg)) = L3 → fModel_bury_75 D cA b E o n sh Rf I L3 post x1 z0) ∧ (¬ z0 < 0 → vp_in z0 6 ∧ vp_in x1 6 ∧ vp_in z0 6 ∧ ∀ L6 : Nat → Nat → Int64, q_u L (o + 68) (z0 : Int32).toNatClampNeg ((L (o + 68) (z0 : Int32).toNatClampNeg) + (L (o + 68) (x1 : Int32).toNatClampNeg)) = L6 → fModel_bury_75 D cA b E o n sh Rf I L6 post x1 z0))
set_option maxHeartbeats 4000000 in
set_option maxRecDepth 20000 in
theorem sModel_bury_37 {D : va_G} {cA : FieldType → ClassId} {b : Nat} {E : State → Prop} (o : Nat) (n : Nat) (sh : Nat → qC) (Rf : Nat → Nat → Option Nat) (I : Nat → Nat → Int32) (L : Nat → Nat → Int64) (post : Option Value → qS → Prop) (x1 : Int32) (z0 : Int32) (hok : q_ok (qGG D cA b E)) (hw : WfModel (qGG D cA b E) n sh Rf o) (H : fModel_bury_37 D cA b E o n sh Rf I L post x1 z0) : Ev (qGG D cA b E) mModel_bury 1 (0, 0) 37 [(0, .ref o), (1, .int x1)] [.int z0] (n, sh, Rf, I, L) post := by
  unfold fModel_bury_37 at H
  refine ev_istore_n dModel_bury_37 (by decide) ?_
  refine ev_iload_n dModel_bury_38 rfl ?_
  refine ev_if_lt 60 dModel_bury_39 (by decide) (fun c1 => ?_) (fun c1 => ?_)
  · have H := H.1 c1
    refine ev_aload_n dModel_bury_60 rfl ?_
    refine ev_dup dModel_bury_61 rfl ?_
    refine ev_getL hok fk_Model_581 (woModel hw) (fun _ _ _ => rfl) dModel_bury_62 ?_
    refine ev_aload_n dModel_bury_65 rfl ?_
    refine ev_getR hok fk_Model_578 (woModel hw) (fun _ _ _ => rfl) (wrModel_101 hw) dModel_bury_66 ?_
    refine ev_iload_n dModel_bury_69 rfl ?_
    obtain ⟨h2, H⟩ := H
    refine ev_lald hok (waModel_101 hw) h2 dModel_bury_70 ?_
    refine ev_ladd dModel_bury_71 ?_
    refine ev_putL hok fk_Model_581 (woModel hw) (fun _ _ _ => rfl) rfl rfl dModel_bury_72 ?_
    generalize eL3 : q_u L o 114 ((L o 114) + (L (o + 68) (x1 : Int32).toNatClampNeg)) = L3
    have H := H L3 eL3
    exact ev_sub [(0, .ref o), (1, .int x1), (2, .int z0)] rfl (sModel_bury_75 o n sh Rf I L3 post x1 z0 hok hw H)
  · have H := H.2 c1
    refine ev_aload_n dModel_bury_42 rfl ?_
    refine ev_getR hok fk_Model_578 (woModel hw) (fun _ _ _ => rfl) (wrModel_101 hw) dModel_bury_43 ?_
    refine ev_iload_n dModel_bury_46 rfl ?_
    refine ev_dup2_11 dModel_bury_47 rfl rfl ?_
    obtain ⟨h4, H⟩ := H
    refine ev_lald hok (waModel_101 hw) h4 dModel_bury_48 ?_
    refine ev_aload_n dModel_bury_49 rfl ?_
    refine ev_getR hok fk_Model_578 (woModel hw) (fun _ _ _ => rfl) (wrModel_101 hw) dModel_bury_50 ?_
    refine ev_iload_n dModel_bury_53 rfl ?_
    obtain ⟨h5, H⟩ := H
    refine ev_lald hok (waModel_101 hw) h5 dModel_bury_54 ?_
    refine ev_ladd dModel_bury_55 ?_
    obtain ⟨h7, H⟩ := H
    refine ev_last hok (waModel_101 hw) h7 dModel_bury_56 ?_
    generalize eL6 : q_u L (o + 68) (z0 : Int32).toNatClampNeg ((L (o + 68) (z0 : Int32).toNatClampNeg) + (L (o + 68) (x1 : Int32).toNatClampNeg)) = L6
    have H := H L6 eL6
    refine ev_goto 75 dModel_bury_57 (by decide) ?_
    exact ev_sub [(0, .ref o), (1, .int x1), (2, .int z0)] rfl (sModel_bury_75 o n sh Rf I L6 post x1 z0 hok hw H)
def fModel_bury_36 (D : va_G) (cA : FieldType → ClassId) (b : Nat) (E : State → Prop) (o : Nat) (n : Nat) (sh : Nat → qC) (Rf : Nat → Nat → Option Nat) (I : Nat → Nat → Int32) (L : Nat → Nat → Int64) (post : Option Value → qS → Prop) (x1 : Int32) : Prop :=
  fModel_bury_37 D cA b E o n sh Rf I L post x1 (-1)
set_option maxHeartbeats 4000000 in
set_option maxRecDepth 20000 in
theorem sModel_bury_36 {D : va_G} {cA : FieldType → ClassId} {b : Nat} {E : State → Prop} (o : Nat) (n : Nat) (sh : Nat → qC) (Rf : Nat → Nat → Option Nat) (I : Nat → Nat → Int32) (L : Nat → Nat → Int64) (post : Option Value → qS → Prop) (x1 : Int32) (hok : q_ok (qGG D cA b E)) (hw : WfModel (qGG D cA b E) n sh Rf o) (H : fModel_bury_36 D cA b E o n sh Rf I L post x1) : Ev (qGG D cA b E) mModel_bury 1 (0, 0) 36 [(0, .ref o), (1, .int x1)] [] (n, sh, Rf, I, L) post := by
  unfold fModel_bury_36 at H
  refine ev_iconst (-1) dModel_bury_36 (by decide) ?_
  exact ev_sub [(0, .ref o), (1, .int x1)] rfl (sModel_bury_37 o n sh Rf I L post x1 (-1) hok hw H)
def fModel_bury_0 (D : va_G) (cA : FieldType → ClassId) (b : Nat) (E : State → Prop) (o : Nat) (n : Nat) (sh : Nat → qC) (Rf : Nat → Nat → Option Nat) (I : Nat → Nat → Int32) (L : Nat → Nat → Int64) (post : Option Value → qS → Prop) (x1 : Int32) : Prop :=
  vp_in x1 6 ∧ (((I (o + 50) (x1 : Int32).toNatClampNeg) < 0 → fModel_bury_36 D cA b E o n sh Rf I L post x1) ∧ (¬ (I (o + 50) (x1 : Int32).toNatClampNeg) < 0 → vp_in x1 6 ∧ vp_in (I (o + 50) (x1 : Int32).toNatClampNeg) 6 ∧ (((I (o + 49) ((I (o + 50) (x1 : Int32).toNatClampNeg) : Int32).toNatClampNeg) ≤ (I o 57) → fModel_bury_36 D cA b E o n sh Rf I L post x1) ∧ (¬ (I (o + 49) ((I (o + 50) (x1 : Int32).toNatClampNeg) : Int32).toNatClampNeg) ≤ (I o 57) → vp_in x1 6 ∧ fModel_bury_37 D cA b E o n sh Rf I L post x1 (I (o + 50) (x1 : Int32).toNatClampNeg)))))
set_option maxHeartbeats 4000000 in
set_option maxRecDepth 20000 in
theorem sModel_bury_0 {D : va_G} {cA : FieldType → ClassId} {b : Nat} {E : State → Prop} (o : Nat) (n : Nat) (sh : Nat → qC) (Rf : Nat → Nat → Option Nat) (I : Nat → Nat → Int32) (L : Nat → Nat → Int64) (post : Option Value → qS → Prop) (x1 : Int32) (hok : q_ok (qGG D cA b E)) (hw : WfModel (qGG D cA b E) n sh Rf o) (H : fModel_bury_0 D cA b E o n sh Rf I L post x1) : Ev (qGG D cA b E) mModel_bury 1 (0, 0) 0 [(0, .ref o), (1, .int x1)] [] (n, sh, Rf, I, L) post := by
  unfold fModel_bury_0 at H
  refine ev_aload_n dModel_bury_0 rfl ?_
  refine ev_getR hok fk_Model_575 (woModel hw) (fun _ _ _ => rfl) (wrModel_83 hw) dModel_bury_1 ?_
  refine ev_iload_n dModel_bury_4 rfl ?_
  obtain ⟨h1, H⟩ := H
  refine ev_iald hok (waModel_83 hw) h1 dModel_bury_5 ?_
  refine ev_if_lt 36 dModel_bury_6 (by decide) (fun c2 => ?_) (fun c2 => ?_)
  · have H := H.1 c2
    exact ev_sub [(0, .ref o), (1, .int x1)] rfl (sModel_bury_36 o n sh Rf I L post x1 hok hw H)
  · have H := H.2 c2
    refine ev_aload_n dModel_bury_9 rfl ?_
    refine ev_getR hok fk_Model_522 (woModel hw) (fun _ _ _ => rfl) (wrModel_82 hw) dModel_bury_10 ?_
    refine ev_aload_n dModel_bury_13 rfl ?_
    refine ev_getR hok fk_Model_575 (woModel hw) (fun _ _ _ => rfl) (wrModel_83 hw) dModel_bury_14 ?_
    refine ev_iload_n dModel_bury_17 rfl ?_
    obtain ⟨h3, H⟩ := H
    refine ev_iald hok (waModel_83 hw) h3 dModel_bury_18 ?_
    obtain ⟨h4, H⟩ := H
    refine ev_iald hok (waModel_82 hw) h4 dModel_bury_19 ?_
    refine ev_aload_n dModel_bury_20 rfl ?_
    refine ev_getI hok fk_Model_348 (woModel hw) (fun _ _ _ => rfl) dModel_bury_21 ?_
    refine ev_icmp_le 36 dModel_bury_24 (by decide) (fun c5 => ?_) (fun c5 => ?_)
    · have H := H.1 c5
      exact ev_sub [(0, .ref o), (1, .int x1)] rfl (sModel_bury_36 o n sh Rf I L post x1 hok hw H)
    · have H := H.2 c5
      refine ev_aload_n dModel_bury_27 rfl ?_
      refine ev_getR hok fk_Model_575 (woModel hw) (fun _ _ _ => rfl) (wrModel_83 hw) dModel_bury_28 ?_
      refine ev_iload_n dModel_bury_31 rfl ?_
      obtain ⟨h6, H⟩ := H
      refine ev_iald hok (waModel_83 hw) h6 dModel_bury_32 ?_
      refine ev_goto 37 dModel_bury_33 (by decide) ?_
      exact ev_sub [(0, .ref o), (1, .int x1)] rfl (sModel_bury_37 o n sh Rf I L post x1 (I (o + 50) (x1 : Int32).toNatClampNeg) hok hw H)
def fModel_clear_256 (D : va_G) (cA : FieldType → ClassId) (b : Nat) (E : State → Prop) (o : Nat) (n : Nat) (sh : Nat → qC) (Rf : Nat → Nat → Option Nat) (I : Nat → Nat → Int32) (L : Nat → Nat → Int64) (post : Option Value → qS → Prop) (x1 : Int32) (x2 : Int32) : Prop :=
  Ev (qGG D cA b E) mModel_clear 1 (0, 0) 187 [(0, .ref o), (1, .int x1), (2, .int ((x2 + Int32.ofInt 1)))] [] (n, sh, Rf, I, L) post
set_option maxHeartbeats 4000000 in
set_option maxRecDepth 20000 in
theorem sModel_clear_256 {D : va_G} {cA : FieldType → ClassId} {b : Nat} {E : State → Prop} (o : Nat) (n : Nat) (sh : Nat → qC) (Rf : Nat → Nat → Option Nat) (I : Nat → Nat → Int32) (L : Nat → Nat → Int64) (post : Option Value → qS → Prop) (x1 : Int32) (x2 : Int32) (hok : q_ok (qGG D cA b E)) (hw : WfModel (qGG D cA b E) n sh Rf o) (H : fModel_clear_256 D cA b E o n sh Rf I L post x1 x2) : Ev (qGG D cA b E) mModel_clear 1 (0, 0) 256 [(0, .ref o), (1, .int x1), (2, .int x2)] [] (n, sh, Rf, I, L) post := by
  unfold fModel_clear_256 at H
  refine ev_iinc dModel_clear_256 rfl (by decide) ?_
  refine ev_goto 187 dModel_clear_259 (by decide) ?_
  exact ev_sub [(0, .ref o), (1, .int x1), (2, .int ((x2 + Int32.ofInt 1)))] rfl H
def fModel_clear_187 (D : va_G) (cA : FieldType → ClassId) (b : Nat) (E : State → Prop) (o : Nat) (n : Nat) (sh : Nat → qC) (Rf : Nat → Nat → Option Nat) (I : Nat → Nat → Int32) (L : Nat → Nat → Int64) (post : Option Value → qS → Prop) (x1 : Int32) (x2 : Int32) : Prop :=
  (((I o 67) ≤ x2 → Ev (qGG D cA b E) mModel_clear 1 (0, 0) 148 [(0, .ref o), (1, .int ((x1 + Int32.ofInt 1)))] [] (n, sh, Rf, I, L) post) ∧ (¬ (I o 67) ≤ x2 → Ev (qGG D cA b E) mModel_counts 0 (0, 0) 0 (lv_args 0 [.ref o, .int x2, .int 2]) [] (n, sh, Rf, I, L) (fun v τ => ∃ (r3 : Int32) (I4 : Nat → Nat → Int32) (L5 : Nat → Nat → Int64), v = some (.int r3) ∧ τ = (n, sh, Rf, I4, L5) ∧ ((r3 = 0 → fModel_clear_256 D cA b E o n sh Rf I4 L5 post x1 x2) ∧ (¬ r3 = 0 → vp_in x2 40 ∧ ((¬ (I4 (o + 37) (x2 : Int32).toNatClampNeg) = x1 → fModel_clear_256 D cA b E o n sh Rf I4 L5 post x1 x2) ∧ ((I4 (o + 37) (x2 : Int32).toNatClampNeg) = x1 → vp_in x2 40 ∧ vp_in x1 6 ∧ (((I4 (o + 38) (x2 : Int32).toNatClampNeg) ≤ (I4 (o + 49) (x1 : Int32).toNatClampNeg) → vp_in x2 40 ∧ vp_in x1 6 ∧ ∀ I13 : Nat → Nat → Int32, q_u I4 (o + 49) (x1 : Int32).toNatClampNeg (I4 (o + 38) (x2 : Int32).toNatClampNeg) = I13 → vp_in x2 40 ∧ vp_in x1 6 ∧ ∀ I16 : Nat → Nat → Int32, q_u I13 (o + 50) (x1 : Int32).toNatClampNeg (I13 (o + 39) (x2 : Int32).toNatClampNeg) = I16 → fModel_clear_256 D cA b E o n sh Rf I16 L5 post x1 x2) ∧ (¬ (I4 (o + 38) (x2 : Int32).toNatClampNeg) ≤ (I4 (o + 49) (x1 : Int32).toNatClampNeg) → fModel_clear_256 D cA b E o n sh Rf I4 L5 post x1 x2)))))))))
set_option maxHeartbeats 4000000 in
set_option maxRecDepth 20000 in
theorem sModel_clear_187 {D : va_G} {cA : FieldType → ClassId} {b : Nat} {E : State → Prop} (o : Nat) (n : Nat) (sh : Nat → qC) (Rf : Nat → Nat → Option Nat) (I : Nat → Nat → Int32) (L : Nat → Nat → Int64) (post : Option Value → qS → Prop) (x1 : Int32) (x2 : Int32) (hok : q_ok (qGG D cA b E)) (hw : WfModel (qGG D cA b E) n sh Rf o) (H : fModel_clear_187 D cA b E o n sh Rf I L post x1 x2) : Ev (qGG D cA b E) mModel_clear 1 (0, 0) 187 [(0, .ref o), (1, .int x1), (2, .int x2)] [] (n, sh, Rf, I, L) post := by
  unfold fModel_clear_187 at H
  refine ev_iload_n dModel_clear_187 rfl ?_
  refine ev_aload_n dModel_clear_188 rfl ?_
  refine ev_getI hok fk_Model_169 (woModel hw) (fun _ _ _ => rfl) dModel_clear_189 ?_
  refine ev_icmp_ge 262 dModel_clear_192 (by decide) (fun c1 => ?_) (fun c1 => ?_)
  · have H := H.1 c1
    refine ev_iinc dModel_clear_262 rfl (by decide) ?_
    refine ev_goto 148 dModel_clear_265 (by decide) ?_
    exact ev_sub [(0, .ref o), (1, .int ((x1 + Int32.ofInt 1)))] rfl H
  · have H := H.2 c1
    refine ev_aload_n dModel_clear_195 rfl ?_
    refine ev_iload_n dModel_clear_196 rfl ?_
    refine ev_iconst (2) dModel_clear_197 (by decide) ?_
    refine ev_callV [.int x2, .int 2] [] (B' := (0, 0)) (B'' := (0, 0)) hok mmModel_counts mk_Model_541 (ci := 12) rfl rfl (woModel hw) rfl (Nat.le_of_ble_eq_true rfl) rfl (Nat.le_of_ble_eq_true rfl) dModel_clear_198 rfl (by decide) H (fun v τ p2 => ?_)
    obtain ⟨r3, I4, L5, rfl, rfl, H⟩ := p2
    refine ev_if_eq 256 dModel_clear_201 (by decide) (fun c6 => ?_) (fun c6 => ?_)
    · have H := H.1 c6
      exact ev_sub [(0, .ref o), (1, .int x1), (2, .int x2)] rfl (sModel_clear_256 o n sh Rf I4 L5 post x1 x2 hok hw H)
    · have H := H.2 c6
      refine ev_aload_n dModel_clear_204 rfl ?_
      refine ev_getR hok fk_Model_415 (woModel hw) (fun _ _ _ => rfl) (wrModel_61 hw) dModel_clear_205 ?_
      refine ev_iload_n dModel_clear_208 rfl ?_
      obtain ⟨h7, H⟩ := H
      refine ev_iald hok (waModel_61 hw) h7 dModel_clear_209 ?_
      refine ev_iload_n dModel_clear_210 rfl ?_
      refine ev_icmp_ne 256 dModel_clear_211 (by decide) (fun c8 => ?_) (fun c8 => ?_)
      · have H := H.1 c8
        exact ev_sub [(0, .ref o), (1, .int x1), (2, .int x2)] rfl (sModel_clear_256 o n sh Rf I4 L5 post x1 x2 hok hw H)
      · have H := H.2 c8
        refine ev_aload_n dModel_clear_214 rfl ?_
        refine ev_getR hok fk_Model_418 (woModel hw) (fun _ _ _ => rfl) (wrModel_62 hw) dModel_clear_215 ?_
        refine ev_iload_n dModel_clear_218 rfl ?_
        obtain ⟨h9, H⟩ := H
        refine ev_iald hok (waModel_62 hw) h9 dModel_clear_219 ?_
        refine ev_aload_n dModel_clear_220 rfl ?_
        refine ev_getR hok fk_Model_522 (woModel hw) (fun _ _ _ => rfl) (wrModel_82 hw) dModel_clear_221 ?_
        refine ev_iload_n dModel_clear_224 rfl ?_
        obtain ⟨h10, H⟩ := H
        refine ev_iald hok (waModel_82 hw) h10 dModel_clear_225 ?_
        refine ev_icmp_le 232 dModel_clear_226 (by decide) (fun c11 => ?_) (fun c11 => ?_)
        · have H := H.1 c11
          refine ev_aload_n dModel_clear_232 rfl ?_
          refine ev_getR hok fk_Model_522 (woModel hw) (fun _ _ _ => rfl) (wrModel_82 hw) dModel_clear_233 ?_
          refine ev_iload_n dModel_clear_236 rfl ?_
          refine ev_aload_n dModel_clear_237 rfl ?_
          refine ev_getR hok fk_Model_418 (woModel hw) (fun _ _ _ => rfl) (wrModel_62 hw) dModel_clear_238 ?_
          refine ev_iload_n dModel_clear_241 rfl ?_
          obtain ⟨h12, H⟩ := H
          refine ev_iald hok (waModel_62 hw) h12 dModel_clear_242 ?_
          obtain ⟨h14, H⟩ := H
          refine ev_iast hok (waModel_82 hw) h14 dModel_clear_243 ?_
          generalize eI13 : q_u I4 (o + 49) (x1 : Int32).toNatClampNeg (I4 (o + 38) (x2 : Int32).toNatClampNeg) = I13
          have H := H I13 eI13
          refine ev_aload_n dModel_clear_244 rfl ?_
          refine ev_getR hok fk_Model_575 (woModel hw) (fun _ _ _ => rfl) (wrModel_83 hw) dModel_clear_245 ?_
          refine ev_iload_n dModel_clear_248 rfl ?_
          refine ev_aload_n dModel_clear_249 rfl ?_
          refine ev_getR hok fk_Model_421 (woModel hw) (fun _ _ _ => rfl) (wrModel_63 hw) dModel_clear_250 ?_
          refine ev_iload_n dModel_clear_253 rfl ?_
          obtain ⟨h15, H⟩ := H
          refine ev_iald hok (waModel_63 hw) h15 dModel_clear_254 ?_
          obtain ⟨h17, H⟩ := H
          refine ev_iast hok (waModel_83 hw) h17 dModel_clear_255 ?_
          generalize eI16 : q_u I13 (o + 50) (x1 : Int32).toNatClampNeg (I13 (o + 39) (x2 : Int32).toNatClampNeg) = I16
          have H := H I16 eI16
          exact ev_sub [(0, .ref o), (1, .int x1), (2, .int x2)] rfl (sModel_clear_256 o n sh Rf I16 L5 post x1 x2 hok hw H)
        · have H := H.2 c11
          refine ev_goto 256 dModel_clear_229 (by decide) ?_
          exact ev_sub [(0, .ref o), (1, .int x1), (2, .int x2)] rfl (sModel_clear_256 o n sh Rf I4 L5 post x1 x2 hok hw H)
def fModel_clear_148 (D : va_G) (cA : FieldType → ClassId) (b : Nat) (E : State → Prop) (o : Nat) (n : Nat) (sh : Nat → qC) (Rf : Nat → Nat → Option Nat) (I : Nat → Nat → Int32) (L : Nat → Nat → Int64) (post : Option Value → qS → Prop) (x1 : Int32) : Prop :=
  (((I o 66) ≤ x1 → post none (n, sh, Rf, I, L)) ∧ (¬ (I o 66) ≤ x1 → vp_in x1 6 ∧ vp_in x1 6 ∧ ∀ L3 : Nat → Nat → Int64, q_u L (o + 68) (x1 : Int32).toNatClampNeg (((I (o + 35) (x1 : Int32).toNatClampNeg) : Int32).toInt64) = L3 → vp_in x1 6 ∧ ∀ I5 : Nat → Nat → Int32, q_u I (o + 49) (x1 : Int32).toNatClampNeg 1000000 = I5 → vp_in x1 6 ∧ ∀ I7 : Nat → Nat → Int32, q_u I5 (o + 50) (x1 : Int32).toNatClampNeg (-1) = I7 → Ev (qGG D cA b E) mModel_clear 1 (0, 0) 187 [(0, .ref o), (1, .int x1), (2, .int 0)] [] (n, sh, Rf, I7, L3) post))
set_option maxHeartbeats 4000000 in
set_option maxRecDepth 20000 in
theorem sModel_clear_148 {D : va_G} {cA : FieldType → ClassId} {b : Nat} {E : State → Prop} (o : Nat) (n : Nat) (sh : Nat → qC) (Rf : Nat → Nat → Option Nat) (I : Nat → Nat → Int32) (L : Nat → Nat → Int64) (post : Option Value → qS → Prop) (x1 : Int32) (hok : q_ok (qGG D cA b E)) (hw : WfModel (qGG D cA b E) n sh Rf o) (H : fModel_clear_148 D cA b E o n sh Rf I L post x1) : Ev (qGG D cA b E) mModel_clear 1 (0, 0) 148 [(0, .ref o), (1, .int x1)] [] (n, sh, Rf, I, L) post := by
  unfold fModel_clear_148 at H
  refine ev_iload_n dModel_clear_148 rfl ?_
  refine ev_aload_n dModel_clear_149 rfl ?_
  refine ev_getI hok fk_Model_387 (woModel hw) (fun _ _ _ => rfl) dModel_clear_150 ?_
  refine ev_icmp_ge 268 dModel_clear_153 (by decide) (fun c1 => ?_) (fun c1 => ?_)
  · have H := H.1 c1
    exact ev_vret rfl dModel_clear_268 H
  · have H := H.2 c1
    refine ev_aload_n dModel_clear_156 rfl ?_
    refine ev_getR hok fk_Model_578 (woModel hw) (fun _ _ _ => rfl) (wrModel_101 hw) dModel_clear_157 ?_
    refine ev_iload_n dModel_clear_160 rfl ?_
    refine ev_aload_n dModel_clear_161 rfl ?_
    refine ev_getR hok fk_Model_390 (woModel hw) (fun _ _ _ => rfl) (wrModel_59 hw) dModel_clear_162 ?_
    refine ev_iload_n dModel_clear_165 rfl ?_
    obtain ⟨h2, H⟩ := H
    refine ev_iald hok (waModel_59 hw) h2 dModel_clear_166 ?_
    refine ev_i2l dModel_clear_167 ?_
    obtain ⟨h4, H⟩ := H
    refine ev_last hok (waModel_101 hw) h4 dModel_clear_168 ?_
    generalize eL3 : q_u L (o + 68) (x1 : Int32).toNatClampNeg (((I (o + 35) (x1 : Int32).toNatClampNeg) : Int32).toInt64) = L3
    have H := H L3 eL3
    refine ev_aload_n dModel_clear_169 rfl ?_
    refine ev_getR hok fk_Model_522 (woModel hw) (fun _ _ _ => rfl) (wrModel_82 hw) dModel_clear_170 ?_
    refine ev_iload_n dModel_clear_173 rfl ?_
    refine ev_ldcw (1000000) dModel_clear_174 (q_t7 91 (by decide +kernel) rfl) ?_
    obtain ⟨h6, H⟩ := H
    refine ev_iast hok (waModel_82 hw) h6 dModel_clear_177 ?_
    generalize eI5 : q_u I (o + 49) (x1 : Int32).toNatClampNeg 1000000 = I5
    have H := H I5 eI5
    refine ev_aload_n dModel_clear_178 rfl ?_
    refine ev_getR hok fk_Model_575 (woModel hw) (fun _ _ _ => rfl) (wrModel_83 hw) dModel_clear_179 ?_
    refine ev_iload_n dModel_clear_182 rfl ?_
    refine ev_iconst (-1) dModel_clear_183 (by decide) ?_
    obtain ⟨h8, H⟩ := H
    refine ev_iast hok (waModel_83 hw) h8 dModel_clear_184 ?_
    generalize eI7 : q_u I5 (o + 50) (x1 : Int32).toNatClampNeg (-1) = I7
    have H := H I7 eI7
    refine ev_iconst (0) dModel_clear_185 (by decide) ?_
    refine ev_istore_n dModel_clear_186 (by decide) ?_
    exact ev_sub [(0, .ref o), (1, .int x1), (2, .int 0)] rfl H
def fModel_clear_127 (D : va_G) (cA : FieldType → ClassId) (b : Nat) (E : State → Prop) (o : Nat) (n : Nat) (sh : Nat → qC) (Rf : Nat → Nat → Option Nat) (I : Nat → Nat → Int32) (L : Nat → Nat → Int64) (post : Option Value → qS → Prop) (x1 : Int32) : Prop :=
  ((18 ≤ x1 → Ev (qGG D cA b E) mModel_clear 1 (0, 0) 148 [(0, .ref o), (1, .int 0)] [] (n, sh, Rf, I, L) post) ∧ (¬ 18 ≤ x1 → vp_in x1 18 ∧ ∀ I2 : Nat → Nat → Int32, q_u I (o + 48) (x1 : Int32).toNatClampNeg (-1) = I2 → Ev (qGG D cA b E) mModel_clear 1 (0, 0) 127 [(0, .ref o), (1, .int ((x1 + Int32.ofInt 1)))] [] (n, sh, Rf, I2, L) post))
set_option maxHeartbeats 4000000 in
set_option maxRecDepth 20000 in
theorem sModel_clear_127 {D : va_G} {cA : FieldType → ClassId} {b : Nat} {E : State → Prop} (o : Nat) (n : Nat) (sh : Nat → qC) (Rf : Nat → Nat → Option Nat) (I : Nat → Nat → Int32) (L : Nat → Nat → Int64) (post : Option Value → qS → Prop) (x1 : Int32) (hok : q_ok (qGG D cA b E)) (hw : WfModel (qGG D cA b E) n sh Rf o) (H : fModel_clear_127 D cA b E o n sh Rf I L post x1) : Ev (qGG D cA b E) mModel_clear 1 (0, 0) 127 [(0, .ref o), (1, .int x1)] [] (n, sh, Rf, I, L) post := by
  unfold fModel_clear_127 at H
  refine ev_iload_n dModel_clear_127 rfl ?_
  refine ev_bipush (18) dModel_clear_128 (by decide) ?_
  refine ev_icmp_ge 146 dModel_clear_130 (by decide) (fun c1 => ?_) (fun c1 => ?_)
  · have H := H.1 c1
    refine ev_iconst (0) dModel_clear_146 (by decide) ?_
    refine ev_istore_n dModel_clear_147 (by decide) ?_
    exact ev_sub [(0, .ref o), (1, .int 0)] rfl H
  · have H := H.2 c1
    refine ev_aload_n dModel_clear_133 rfl ?_
    refine ev_getR hok fk_Model_584 (woModel hw) (fun _ _ _ => rfl) (wrModel_81 hw) dModel_clear_134 ?_
    refine ev_iload_n dModel_clear_137 rfl ?_
    refine ev_iconst (-1) dModel_clear_138 (by decide) ?_
    obtain ⟨h3, H⟩ := H
    refine ev_iast hok (waModel_81 hw) h3 dModel_clear_139 ?_
    generalize eI2 : q_u I (o + 48) (x1 : Int32).toNatClampNeg (-1) = I2
    have H := H I2 eI2
    refine ev_iinc dModel_clear_140 rfl (by decide) ?_
    refine ev_goto 127 dModel_clear_143 (by decide) ?_
    exact ev_sub [(0, .ref o), (1, .int ((x1 + Int32.ofInt 1)))] rfl H
def fModel_clear_107 (D : va_G) (cA : FieldType → ClassId) (b : Nat) (E : State → Prop) (o : Nat) (n : Nat) (sh : Nat → qC) (Rf : Nat → Nat → Option Nat) (I : Nat → Nat → Int32) (L : Nat → Nat → Int64) (post : Option Value → qS → Prop) (x1 : Int32) : Prop :=
  ((5 ≤ x1 → Ev (qGG D cA b E) mModel_clear 1 (0, 0) 127 [(0, .ref o), (1, .int 0)] [] (n, sh, Rf, I, L) post) ∧ (¬ 5 ≤ x1 → vp_in x1 5 ∧ ∀ I2 : Nat → Nat → Int32, q_u I (o + 45) (x1 : Int32).toNatClampNeg 0 = I2 → Ev (qGG D cA b E) mModel_clear 1 (0, 0) 107 [(0, .ref o), (1, .int ((x1 + Int32.ofInt 1)))] [] (n, sh, Rf, I2, L) post))
set_option maxHeartbeats 4000000 in
set_option maxRecDepth 20000 in
theorem sModel_clear_107 {D : va_G} {cA : FieldType → ClassId} {b : Nat} {E : State → Prop} (o : Nat) (n : Nat) (sh : Nat → qC) (Rf : Nat → Nat → Option Nat) (I : Nat → Nat → Int32) (L : Nat → Nat → Int64) (post : Option Value → qS → Prop) (x1 : Int32) (hok : q_ok (qGG D cA b E)) (hw : WfModel (qGG D cA b E) n sh Rf o) (H : fModel_clear_107 D cA b E o n sh Rf I L post x1) : Ev (qGG D cA b E) mModel_clear 1 (0, 0) 107 [(0, .ref o), (1, .int x1)] [] (n, sh, Rf, I, L) post := by
  unfold fModel_clear_107 at H
  refine ev_iload_n dModel_clear_107 rfl ?_
  refine ev_iconst (5) dModel_clear_108 (by decide) ?_
  refine ev_icmp_ge 125 dModel_clear_109 (by decide) (fun c1 => ?_) (fun c1 => ?_)
  · have H := H.1 c1
    refine ev_iconst (0) dModel_clear_125 (by decide) ?_
    refine ev_istore_n dModel_clear_126 (by decide) ?_
    exact ev_sub [(0, .ref o), (1, .int 0)] rfl H
  · have H := H.2 c1
    refine ev_aload_n dModel_clear_112 rfl ?_
    refine ev_getR hok fk_Model_474 (woModel hw) (fun _ _ _ => rfl) (wrModel_78 hw) dModel_clear_113 ?_
    refine ev_iload_n dModel_clear_116 rfl ?_
    refine ev_iconst (0) dModel_clear_117 (by decide) ?_
    obtain ⟨h3, H⟩ := H
    refine ev_iast hok (waModel_78 hw) h3 dModel_clear_118 ?_
    generalize eI2 : q_u I (o + 45) (x1 : Int32).toNatClampNeg 0 = I2
    have H := H I2 eI2
    refine ev_iinc dModel_clear_119 rfl (by decide) ?_
    refine ev_goto 107 dModel_clear_122 (by decide) ?_
    exact ev_sub [(0, .ref o), (1, .int ((x1 + Int32.ofInt 1)))] rfl H
def fModel_clear_87 (D : va_G) (cA : FieldType → ClassId) (b : Nat) (E : State → Prop) (o : Nat) (n : Nat) (sh : Nat → qC) (Rf : Nat → Nat → Option Nat) (I : Nat → Nat → Int32) (L : Nat → Nat → Int64) (post : Option Value → qS → Prop) (x1 : Int32) : Prop :=
  ((3 ≤ x1 → Ev (qGG D cA b E) mModel_clear 1 (0, 0) 107 [(0, .ref o), (1, .int 0)] [] (n, sh, Rf, I, L) post) ∧ (¬ 3 ≤ x1 → vp_in x1 3 ∧ ∀ I2 : Nat → Nat → Int32, q_u I (o + 44) (x1 : Int32).toNatClampNeg 0 = I2 → Ev (qGG D cA b E) mModel_clear 1 (0, 0) 87 [(0, .ref o), (1, .int ((x1 + Int32.ofInt 1)))] [] (n, sh, Rf, I2, L) post))
set_option maxHeartbeats 4000000 in
set_option maxRecDepth 20000 in
theorem sModel_clear_87 {D : va_G} {cA : FieldType → ClassId} {b : Nat} {E : State → Prop} (o : Nat) (n : Nat) (sh : Nat → qC) (Rf : Nat → Nat → Option Nat) (I : Nat → Nat → Int32) (L : Nat → Nat → Int64) (post : Option Value → qS → Prop) (x1 : Int32) (hok : q_ok (qGG D cA b E)) (hw : WfModel (qGG D cA b E) n sh Rf o) (H : fModel_clear_87 D cA b E o n sh Rf I L post x1) : Ev (qGG D cA b E) mModel_clear 1 (0, 0) 87 [(0, .ref o), (1, .int x1)] [] (n, sh, Rf, I, L) post := by
  unfold fModel_clear_87 at H
  refine ev_iload_n dModel_clear_87 rfl ?_
  refine ev_iconst (3) dModel_clear_88 (by decide) ?_
  refine ev_icmp_ge 105 dModel_clear_89 (by decide) (fun c1 => ?_) (fun c1 => ?_)
  · have H := H.1 c1
    refine ev_iconst (0) dModel_clear_105 (by decide) ?_
    refine ev_istore_n dModel_clear_106 (by decide) ?_
    exact ev_sub [(0, .ref o), (1, .int 0)] rfl H
  · have H := H.2 c1
    refine ev_aload_n dModel_clear_92 rfl ?_
    refine ev_getR hok fk_Model_469 (woModel hw) (fun _ _ _ => rfl) (wrModel_77 hw) dModel_clear_93 ?_
    refine ev_iload_n dModel_clear_96 rfl ?_
    refine ev_iconst (0) dModel_clear_97 (by decide) ?_
    obtain ⟨h3, H⟩ := H
    refine ev_iast hok (waModel_77 hw) h3 dModel_clear_98 ?_
    generalize eI2 : q_u I (o + 44) (x1 : Int32).toNatClampNeg 0 = I2
    have H := H I2 eI2
    refine ev_iinc dModel_clear_99 rfl (by decide) ?_
    refine ev_goto 87 dModel_clear_102 (by decide) ?_
    exact ev_sub [(0, .ref o), (1, .int ((x1 + Int32.ofInt 1)))] rfl H
def fModel_clear_52 (D : va_G) (cA : FieldType → ClassId) (b : Nat) (E : State → Prop) (o : Nat) (n : Nat) (sh : Nat → qC) (Rf : Nat → Nat → Option Nat) (I : Nat → Nat → Int32) (L : Nat → Nat → Int64) (post : Option Value → qS → Prop) (x1 : Int32) : Prop :=
  Ev (qGG D cA b E) mModel_forts 0 (0, 0) 0 (lv_args 0 [.ref o]) [] (n, sh, Rf, I, L) (fun v τ => ∃ (r2 : Int32) (I3 : Nat → Nat → Int32) (L4 : Nat → Nat → Int64), v = some (.int r2) ∧ τ = (n, sh, Rf, I3, L4) ∧ ((r2 ≤ x1 → Ev (qGG D cA b E) mModel_clear 1 (0, 0) 87 [(0, .ref o), (1, .int 0)] [] (n, sh, Rf, I3, L4) post) ∧ (¬ r2 ≤ x1 → vp_in ((3 * (I3 o 34)) + x1) 6 ∧ vp_in x1 3 ∧ ∀ I7 : Nat → Nat → Int32, q_u I3 (o + 42) (x1 : Int32).toNatClampNeg (I3 (o + 15) (((3 * (I3 o 34)) + x1) : Int32).toNatClampNeg) = I7 → Ev (qGG D cA b E) mModel_clear 1 (0, 0) 52 [(0, .ref o), (1, .int ((x1 + Int32.ofInt 1)))] [] (n, sh, Rf, I7, L4) post)))
set_option maxHeartbeats 4000000 in
set_option maxRecDepth 20000 in
theorem sModel_clear_52 {D : va_G} {cA : FieldType → ClassId} {b : Nat} {E : State → Prop} (o : Nat) (n : Nat) (sh : Nat → qC) (Rf : Nat → Nat → Option Nat) (I : Nat → Nat → Int32) (L : Nat → Nat → Int64) (post : Option Value → qS → Prop) (x1 : Int32) (hok : q_ok (qGG D cA b E)) (hw : WfModel (qGG D cA b E) n sh Rf o) (H : fModel_clear_52 D cA b E o n sh Rf I L post x1) : Ev (qGG D cA b E) mModel_clear 1 (0, 0) 52 [(0, .ref o), (1, .int x1)] [] (n, sh, Rf, I, L) post := by
  unfold fModel_clear_52 at H
  refine ev_iload_n dModel_clear_52 rfl ?_
  refine ev_aload_n dModel_clear_53 rfl ?_
  refine ev_callV [] [.int x1] (B' := (0, 0)) (B'' := (0, 0)) hok mmModel_forts mk_Model_624 (ci := 12) rfl rfl (woModel hw) rfl (Nat.le_of_ble_eq_true rfl) rfl (Nat.le_of_ble_eq_true rfl) dModel_clear_54 rfl (by decide) H (fun v τ p1 => ?_)
  obtain ⟨r2, I3, L4, rfl, rfl, H⟩ := p1
  refine ev_icmp_ge 85 dModel_clear_57 (by decide) (fun c5 => ?_) (fun c5 => ?_)
  · have H := H.1 c5
    refine ev_iconst (0) dModel_clear_85 (by decide) ?_
    refine ev_istore_n dModel_clear_86 (by decide) ?_
    exact ev_sub [(0, .ref o), (1, .int 0)] rfl H
  · have H := H.2 c5
    refine ev_aload_n dModel_clear_60 rfl ?_
    refine ev_getR hok fk_Model_513 (woModel hw) (fun _ _ _ => rfl) (wrModel_75 hw) dModel_clear_61 ?_
    refine ev_iload_n dModel_clear_64 rfl ?_
    refine ev_aload_n dModel_clear_65 rfl ?_
    refine ev_getR hok fk_Model_239 (woModel hw) (fun _ _ _ => rfl) (wrModel_24 hw) dModel_clear_66 ?_
    refine ev_iconst (3) dModel_clear_69 (by decide) ?_
    refine ev_aload_n dModel_clear_70 rfl ?_
    refine ev_getI hok fk_Model_147 (woModel hw) (fun _ _ _ => rfl) dModel_clear_71 ?_
    refine ev_imul dModel_clear_74 ?_
    refine ev_iload_n dModel_clear_75 rfl ?_
    refine ev_iadd dModel_clear_76 ?_
    obtain ⟨h6, H⟩ := H
    refine ev_iald hok (waModel_24 hw) h6 dModel_clear_77 ?_
    obtain ⟨h8, H⟩ := H
    refine ev_iast hok (waModel_75 hw) h8 dModel_clear_78 ?_
    generalize eI7 : q_u I3 (o + 42) (x1 : Int32).toNatClampNeg (I3 (o + 15) (((3 * (I3 o 34)) + x1) : Int32).toNatClampNeg) = I7
    have H := H I7 eI7
    refine ev_iinc dModel_clear_79 rfl (by decide) ?_
    refine ev_goto 52 dModel_clear_82 (by decide) ?_
    exact ev_sub [(0, .ref o), (1, .int ((x1 + Int32.ofInt 1)))] rfl H
def fModel_clear_0 (D : va_G) (cA : FieldType → ClassId) (b : Nat) (E : State → Prop) (o : Nat) (n : Nat) (sh : Nat → qC) (Rf : Nat → Nat → Option Nat) (I : Nat → Nat → Int32) (L : Nat → Nat → Int64) (post : Option Value → qS → Prop)  : Prop :=
  ∀ I1 : Nat → Nat → Int32, q_u I o 104 0 = I1 → ∀ I2 : Nat → Nat → Int32, q_u I1 o 105 0 = I2 → ∀ L3 : Nat → Nat → Int64, q_u L o 112 0 = L3 → ∀ L4 : Nat → Nat → Int64, q_u L3 o 113 0 = L4 → ∀ L5 : Nat → Nat → Int64, q_u L4 o 114 0 = L5 → ∀ L6 : Nat → Nat → Int64, q_u L5 o 115 0 = L6 → ∀ L7 : Nat → Nat → Int64, q_u L6 o 116 0 = L7 → ∀ L8 : Nat → Nat → Int64, q_u L7 o 117 0 = L8 → ∀ L9 : Nat → Nat → Int64, q_u L8 o 118 0 = L9 → ∀ L10 : Nat → Nat → Int64, q_u L9 o 119 0 = L10 → Ev (qGG D cA b E) mModel_clear 1 (0, 0) 52 [(0, .ref o), (1, .int 0)] [] (n, sh, Rf, I2, L10) post
set_option maxHeartbeats 4000000 in
set_option maxRecDepth 20000 in
theorem sModel_clear_0 {D : va_G} {cA : FieldType → ClassId} {b : Nat} {E : State → Prop} (o : Nat) (n : Nat) (sh : Nat → qC) (Rf : Nat → Nat → Option Nat) (I : Nat → Nat → Int32) (L : Nat → Nat → Int64) (post : Option Value → qS → Prop)  (hok : q_ok (qGG D cA b E)) (hw : WfModel (qGG D cA b E) n sh Rf o) (H : fModel_clear_0 D cA b E o n sh Rf I L post ) : Ev (qGG D cA b E) mModel_clear 1 (0, 0) 0 [(0, .ref o)] [] (n, sh, Rf, I, L) post := by
  unfold fModel_clear_0 at H
  refine ev_aload_n dModel_clear_0 rfl ?_
  refine ev_iconst (0) dModel_clear_1 (by decide) ?_
  refine ev_putI hok fk_Model_454 (woModel hw) (fun _ _ _ => rfl) rfl rfl dModel_clear_2 ?_
  generalize eI1 : q_u I o 104 0 = I1
  have H := H I1 eI1
  refine ev_aload_n dModel_clear_5 rfl ?_
  refine ev_iconst (0) dModel_clear_6 (by decide) ?_
  refine ev_putI hok fk_Model_548 (woModel hw) (fun _ _ _ => rfl) rfl rfl dModel_clear_7 ?_
  generalize eI2 : q_u I1 o 105 0 = I2
  have H := H I2 eI2
  refine ev_aload_n dModel_clear_10 rfl ?_
  refine ev_lconst 0 dModel_clear_11 (by decide) ?_
  refine ev_putL hok fk_Model_630 (woModel hw) (fun _ _ _ => rfl) rfl rfl dModel_clear_12 ?_
  generalize eL3 : q_u L o 112 0 = L3
  have H := H L3 eL3
  refine ev_aload_n dModel_clear_15 rfl ?_
  refine ev_lconst 0 dModel_clear_16 (by decide) ?_
  refine ev_putL hok fk_Model_597 (woModel hw) (fun _ _ _ => rfl) rfl rfl dModel_clear_17 ?_
  generalize eL4 : q_u L3 o 113 0 = L4
  have H := H L4 eL4
  refine ev_aload_n dModel_clear_20 rfl ?_
  refine ev_lconst 0 dModel_clear_21 (by decide) ?_
  refine ev_putL hok fk_Model_581 (woModel hw) (fun _ _ _ => rfl) rfl rfl dModel_clear_22 ?_
  generalize eL5 : q_u L4 o 114 0 = L5
  have H := H L5 eL5
  refine ev_aload_n dModel_clear_25 rfl ?_
  refine ev_lconst 0 dModel_clear_26 (by decide) ?_
  refine ev_putL hok fk_Model_700 (woModel hw) (fun _ _ _ => rfl) rfl rfl dModel_clear_27 ?_
  generalize eL6 : q_u L5 o 115 0 = L6
  have H := H L6 eL6
  refine ev_aload_n dModel_clear_30 rfl ?_
  refine ev_lconst 0 dModel_clear_31 (by decide) ?_
  refine ev_putL hok fk_Model_703 (woModel hw) (fun _ _ _ => rfl) rfl rfl dModel_clear_32 ?_
  generalize eL7 : q_u L6 o 116 0 = L7
  have H := H L7 eL7
  refine ev_aload_n dModel_clear_35 rfl ?_
  refine ev_lconst 0 dModel_clear_36 (by decide) ?_
  refine ev_putL hok fk_Model_617 (woModel hw) (fun _ _ _ => rfl) rfl rfl dModel_clear_37 ?_
  generalize eL8 : q_u L7 o 117 0 = L8
  have H := H L8 eL8
  refine ev_aload_n dModel_clear_40 rfl ?_
  refine ev_lconst 0 dModel_clear_41 (by decide) ?_
  refine ev_putL hok fk_Model_614 (woModel hw) (fun _ _ _ => rfl) rfl rfl dModel_clear_42 ?_
  generalize eL9 : q_u L8 o 118 0 = L9
  have H := H L9 eL9
  refine ev_aload_n dModel_clear_45 rfl ?_
  refine ev_lconst 0 dModel_clear_46 (by decide) ?_
  refine ev_putL hok fk_Model_611 (woModel hw) (fun _ _ _ => rfl) rfl rfl dModel_clear_47 ?_
  generalize eL10 : q_u L9 o 119 0 = L10
  have H := H L10 eL10
  refine ev_iconst (0) dModel_clear_50 (by decide) ?_
  refine ev_istore_n dModel_clear_51 (by decide) ?_
  exact ev_sub [(0, .ref o), (1, .int 0)] rfl H
def fModel_costs_0 (D : va_G) (cA : FieldType → ClassId) (b : Nat) (E : State → Prop) (o : Nat) (n : Nat) (sh : Nat → qC) (Rf : Nat → Nat → Option Nat) (I : Nat → Nat → Int32) (L : Nat → Nat → Int64) (post : Option Value → qS → Prop) (x1 : Int32) (x2 : Int32) (x3 : Int32) (x4 : Int32) (x5 : Int32) : Prop :=
  Ev (qGG D cA b E) mModel_isIn 0 (0, 0) 0 (lv_args 0 [.int x1, .int 0, .int 99]) [] (n, sh, Rf, I, L) (fun v τ => ∃ (r2 : Int32) (I3 : Nat → Nat → Int32) (L4 : Nat → Nat → Int64), v = some (.int r2) ∧ τ = (n, sh, Rf, I3, L4) ∧ ((r2 = 0 → post (some (.int 0)) (n, sh, Rf, I3, L4)) ∧ (¬ r2 = 0 → Ev (qGG D cA b E) mModel_isIn 0 (0, 0) 0 (lv_args 0 [.int x2, .int 1, .int 50]) [] (n, sh, Rf, I3, L4) (fun v τ => ∃ (r7 : Int32) (I8 : Nat → Nat → Int32) (L9 : Nat → Nat → Int64), v = some (.int r7) ∧ τ = (n, sh, Rf, I8, L9) ∧ ((r7 = 0 → post (some (.int 0)) (n, sh, Rf, I8, L9)) ∧ (¬ r7 = 0 → Ev (qGG D cA b E) mModel_isIn 0 (0, 0) 0 (lv_args 0 [.int x3, .int 0, .int 99]) [] (n, sh, Rf, I8, L9) (fun v τ => ∃ (r12 : Int32) (I13 : Nat → Nat → Int32) (L14 : Nat → Nat → Int64), v = some (.int r12) ∧ τ = (n, sh, Rf, I13, L14) ∧ ((r12 = 0 → post (some (.int 0)) (n, sh, Rf, I13, L14)) ∧ (¬ r12 = 0 → Ev (qGG D cA b E) mModel_isIn 0 (0, 0) 0 (lv_args 0 [.int x4, .int 0, .int 9999]) [] (n, sh, Rf, I13, L14) (fun v τ => ∃ (r17 : Int32) (I18 : Nat → Nat → Int32) (L19 : Nat → Nat → Int64), v = some (.int r17) ∧ τ = (n, sh, Rf, I18, L19) ∧ ((r17 = 0 → post (some (.int 0)) (n, sh, Rf, I18, L19)) ∧ (¬ r17 = 0 → Ev (qGG D cA b E) mModel_isIn 0 (0, 0) 0 (lv_args 0 [.int x5, .int 0, .int 999]) [] (n, sh, Rf, I18, L19) (fun v τ => ∃ (r22 : Int32) (I23 : Nat → Nat → Int32) (L24 : Nat → Nat → Int64), v = some (.int r22) ∧ τ = (n, sh, Rf, I23, L24) ∧ ((¬ r22 = 0 → ∀ I26 : Nat → Nat → Int32, q_u I23 o 135 0 = I26 → ∀ I27 : Nat → Nat → Int32, q_u I26 o 69 x1 = I27 → ∀ I28 : Nat → Nat → Int32, q_u I27 o 70 x2 = I28 → ∀ I29 : Nat → Nat → Int32, q_u I28 o 71 x3 = I29 → ∀ I30 : Nat → Nat → Int32, q_u I29 o 72 x4 = I30 → ∀ I31 : Nat → Nat → Int32, q_u I30 o 73 x5 = I31 → post (some (.int 1)) (n, sh, Rf, I31, L24)) ∧ (r22 = 0 → post (some (.int 0)) (n, sh, Rf, I23, L24))))))))))))))))
set_option maxHeartbeats 4000000 in
set_option maxRecDepth 20000 in
theorem sModel_costs_0 {D : va_G} {cA : FieldType → ClassId} {b : Nat} {E : State → Prop} (o : Nat) (n : Nat) (sh : Nat → qC) (Rf : Nat → Nat → Option Nat) (I : Nat → Nat → Int32) (L : Nat → Nat → Int64) (post : Option Value → qS → Prop) (x1 : Int32) (x2 : Int32) (x3 : Int32) (x4 : Int32) (x5 : Int32) (hok : q_ok (qGG D cA b E)) (hw : WfModel (qGG D cA b E) n sh Rf o) (H : fModel_costs_0 D cA b E o n sh Rf I L post x1 x2 x3 x4 x5) : Ev (qGG D cA b E) mModel_costs 1 (0, 0) 0 [(0, .ref o), (1, .int x1), (2, .int x2), (3, .int x3), (4, .int x4), (5, .int x5)] [] (n, sh, Rf, I, L) post := by
  unfold fModel_costs_0 at H
  refine ev_iload_n dModel_costs_0 rfl ?_
  refine ev_iconst (0) dModel_costs_1 (by decide) ?_
  refine ev_bipush (99) dModel_costs_2 (by decide) ?_
  refine ev_callS [.int x1, .int 0, .int 99] [] (B' := (0, 0)) (B'' := (0, 0)) hok mmModel_isIn mk_Model_393 rfl (Nat.le_of_ble_eq_true rfl) rfl (Nat.le_of_ble_eq_true rfl) dModel_costs_4 rfl (by decide) H (fun v τ p1 => ?_)
  obtain ⟨r2, I3, L4, rfl, rfl, H⟩ := p1
  refine ev_if_eq 54 dModel_costs_7 (by decide) (fun c5 => ?_) (fun c5 => ?_)
  · have H := H.1 c5
    refine ev_iconst (0) dModel_costs_54 (by decide) ?_
    exact ev_zret rfl (by decide) dModel_costs_55 H
  · have H := H.2 c5
    refine ev_iload_n dModel_costs_10 rfl ?_
    refine ev_iconst (1) dModel_costs_11 (by decide) ?_
    refine ev_bipush (50) dModel_costs_12 (by decide) ?_
    refine ev_callS [.int x2, .int 1, .int 50] [] (B' := (0, 0)) (B'' := (0, 0)) hok mmModel_isIn mk_Model_393 rfl (Nat.le_of_ble_eq_true rfl) rfl (Nat.le_of_ble_eq_true rfl) dModel_costs_14 rfl (by decide) H (fun v τ p6 => ?_)
    obtain ⟨r7, I8, L9, rfl, rfl, H⟩ := p6
    refine ev_if_eq 54 dModel_costs_17 (by decide) (fun c10 => ?_) (fun c10 => ?_)
    · have H := H.1 c10
      refine ev_iconst (0) dModel_costs_54 (by decide) ?_
      exact ev_zret rfl (by decide) dModel_costs_55 H
    · have H := H.2 c10
      refine ev_iload_n dModel_costs_20 rfl ?_
      refine ev_iconst (0) dModel_costs_21 (by decide) ?_
      refine ev_bipush (99) dModel_costs_22 (by decide) ?_
      refine ev_callS [.int x3, .int 0, .int 99] [] (B' := (0, 0)) (B'' := (0, 0)) hok mmModel_isIn mk_Model_393 rfl (Nat.le_of_ble_eq_true rfl) rfl (Nat.le_of_ble_eq_true rfl) dModel_costs_24 rfl (by decide) H (fun v τ p11 => ?_)
      obtain ⟨r12, I13, L14, rfl, rfl, H⟩ := p11
      refine ev_if_eq 54 dModel_costs_27 (by decide) (fun c15 => ?_) (fun c15 => ?_)
      · have H := H.1 c15
        refine ev_iconst (0) dModel_costs_54 (by decide) ?_
        exact ev_zret rfl (by decide) dModel_costs_55 H
      · have H := H.2 c15
        refine ev_iload dModel_costs_30 rfl ?_
        refine ev_iconst (0) dModel_costs_32 (by decide) ?_
        refine ev_sipush (9999) dModel_costs_33 (by decide) ?_
        refine ev_callS [.int x4, .int 0, .int 9999] [] (B' := (0, 0)) (B'' := (0, 0)) hok mmModel_isIn mk_Model_393 rfl (Nat.le_of_ble_eq_true rfl) rfl (Nat.le_of_ble_eq_true rfl) dModel_costs_36 rfl (by decide) H (fun v τ p16 => ?_)
        obtain ⟨r17, I18, L19, rfl, rfl, H⟩ := p16
        refine ev_if_eq 54 dModel_costs_39 (by decide) (fun c20 => ?_) (fun c20 => ?_)
        · have H := H.1 c20
          refine ev_iconst (0) dModel_costs_54 (by decide) ?_
          exact ev_zret rfl (by decide) dModel_costs_55 H
        · have H := H.2 c20
          refine ev_iload dModel_costs_42 rfl ?_
          refine ev_iconst (0) dModel_costs_44 (by decide) ?_
          refine ev_sipush (999) dModel_costs_45 (by decide) ?_
          refine ev_callS [.int x5, .int 0, .int 999] [] (B' := (0, 0)) (B'' := (0, 0)) hok mmModel_isIn mk_Model_393 rfl (Nat.le_of_ble_eq_true rfl) rfl (Nat.le_of_ble_eq_true rfl) dModel_costs_48 rfl (by decide) H (fun v τ p21 => ?_)
          obtain ⟨r22, I23, L24, rfl, rfl, H⟩ := p21
          refine ev_if_ne 56 dModel_costs_51 (by decide) (fun c25 => ?_) (fun c25 => ?_)
          · have H := H.1 c25
            refine ev_aload_n dModel_costs_56 rfl ?_
            refine ev_iconst (0) dModel_costs_57 (by decide) ?_
            refine ev_putI hok fk_Model_172 (woModel hw) (fun _ _ _ => rfl) (q_bz (Or.inl rfl)) (q_bf (Or.inl rfl)) dModel_costs_58 ?_
            generalize eI26 : q_u I23 o 135 0 = I26
            have H := H I26 eI26
            refine ev_aload_n dModel_costs_61 rfl ?_
            refine ev_iload_n dModel_costs_62 rfl ?_
            refine ev_putI hok fk_Model_397 (woModel hw) (fun _ _ _ => rfl) rfl rfl dModel_costs_63 ?_
            generalize eI27 : q_u I26 o 69 x1 = I27
            have H := H I27 eI27
            refine ev_aload_n dModel_costs_66 rfl ?_
            refine ev_iload_n dModel_costs_67 rfl ?_
            refine ev_putI hok fk_Model_400 (woModel hw) (fun _ _ _ => rfl) rfl rfl dModel_costs_68 ?_
            generalize eI28 : q_u I27 o 70 x2 = I28
            have H := H I28 eI28
            refine ev_aload_n dModel_costs_71 rfl ?_
            refine ev_iload_n dModel_costs_72 rfl ?_
            refine ev_putI hok fk_Model_403 (woModel hw) (fun _ _ _ => rfl) rfl rfl dModel_costs_73 ?_
            generalize eI29 : q_u I28 o 71 x3 = I29
            have H := H I29 eI29
            refine ev_aload_n dModel_costs_76 rfl ?_
            refine ev_iload dModel_costs_77 rfl ?_
            refine ev_putI hok fk_Model_406 (woModel hw) (fun _ _ _ => rfl) rfl rfl dModel_costs_79 ?_
            generalize eI30 : q_u I29 o 72 x4 = I30
            have H := H I30 eI30
            refine ev_aload_n dModel_costs_82 rfl ?_
            refine ev_iload dModel_costs_83 rfl ?_
            refine ev_putI hok fk_Model_409 (woModel hw) (fun _ _ _ => rfl) rfl rfl dModel_costs_85 ?_
            generalize eI31 : q_u I30 o 73 x5 = I31
            have H := H I31 eI31
            refine ev_iconst (1) dModel_costs_88 (by decide) ?_
            exact ev_zret rfl (by decide) dModel_costs_89 H
          · have H := H.2 c25
            refine ev_iconst (0) dModel_costs_54 (by decide) ?_
            exact ev_zret rfl (by decide) dModel_costs_55 H
def fModel_cross_0 (D : va_G) (cA : FieldType → ClassId) (b : Nat) (E : State → Prop) (o : Nat) (n : Nat) (sh : Nat → qC) (Rf : Nat → Nat → Option Nat) (I : Nat → Nat → Int32) (L : Nat → Nat → Int64) (post : Option Value → qS → Prop) (x1 : Int32) (x2 : Int32) : Prop :=
  vp_in x1 5 ∧ vp_in ((5 * (I o 34)) + x2) 10 ∧ Ev (qGG D cA b E) mModel_least 0 (0, 0) 0 (lv_args 0 [.int (((I (o + 45) (x1 : Int32).toNatClampNeg) / 10)), .long (((I (o + 21) (((5 * (I o 34)) + x2) : Int32).toNatClampNeg) : Int32).toInt64)]) [] (n, sh, Rf, I, L) (fun v τ => ∃ (r4 : Int32) (I5 : Nat → Nat → Int32) (L6 : Nat → Nat → Int64), v = some (.int r4) ∧ τ = (n, sh, Rf, I5, L6) ∧ vp_in x1 5 ∧ vp_in x1 5 ∧ ∀ I8 : Nat → Nat → Int32, q_u I5 (o + 45) (x1 : Int32).toNatClampNeg ((I5 (o + 45) (x1 : Int32).toNatClampNeg) - r4) = I8 → vp_in x2 5 ∧ vp_in x2 5 ∧ ∀ I11 : Nat → Nat → Int32, q_u I8 (o + 45) (x2 : Int32).toNatClampNeg ((I8 (o + 45) (x2 : Int32).toNatClampNeg) + (r4 - ((r4 * (I5 o 110)) / 100))) = I11 → vp_in x2 5 ∧ vp_in x2 5 ∧ ∀ I14 : Nat → Nat → Int32, q_u I11 (o + 47) (x2 : Int32).toNatClampNeg ((I11 (o + 47) (x2 : Int32).toNatClampNeg) + (r4 - ((r4 * (I5 o 110)) / 100))) = I14 → ∀ L16 : Nat → Nat → Int64, q_u L6 o 115 ((L6 o 115) + ((r4 - ((r4 * (I5 o 110)) / 100)) : Int32).toInt64) = L16 → ∀ L17 : Nat → Nat → Int64, q_u L16 o 116 ((L16 o 116) + (((r4 * (I5 o 110)) / 100) : Int32).toInt64) = L17 → post none (n, sh, Rf, I14, L17))
set_option maxHeartbeats 4000000 in
set_option maxRecDepth 20000 in
theorem sModel_cross_0 {D : va_G} {cA : FieldType → ClassId} {b : Nat} {E : State → Prop} (o : Nat) (n : Nat) (sh : Nat → qC) (Rf : Nat → Nat → Option Nat) (I : Nat → Nat → Int32) (L : Nat → Nat → Int64) (post : Option Value → qS → Prop) (x1 : Int32) (x2 : Int32) (hok : q_ok (qGG D cA b E)) (hw : WfModel (qGG D cA b E) n sh Rf o) (H : fModel_cross_0 D cA b E o n sh Rf I L post x1 x2) : Ev (qGG D cA b E) mModel_cross 1 (0, 0) 0 [(0, .ref o), (1, .int x1), (2, .int x2)] [] (n, sh, Rf, I, L) post := by
  unfold fModel_cross_0 at H
  refine ev_aload_n dModel_cross_0 rfl ?_
  refine ev_getR hok fk_Model_474 (woModel hw) (fun _ _ _ => rfl) (wrModel_78 hw) dModel_cross_1 ?_
  refine ev_iload_n dModel_cross_4 rfl ?_
  obtain ⟨h1, H⟩ := H
  refine ev_iald hok (waModel_78 hw) h1 dModel_cross_5 ?_
  refine ev_bipush (10) dModel_cross_6 (by decide) ?_
  refine ev_idiv dModel_cross_8 (by decide) ?_
  refine ev_aload_n dModel_cross_9 rfl ?_
  refine ev_getR hok fk_Model_257 (woModel hw) (fun _ _ _ => rfl) (wrModel_30 hw) dModel_cross_10 ?_
  refine ev_iconst (5) dModel_cross_13 (by decide) ?_
  refine ev_aload_n dModel_cross_14 rfl ?_
  refine ev_getI hok fk_Model_147 (woModel hw) (fun _ _ _ => rfl) dModel_cross_15 ?_
  refine ev_imul dModel_cross_18 ?_
  refine ev_iload_n dModel_cross_19 rfl ?_
  refine ev_iadd dModel_cross_20 ?_
  obtain ⟨h2, H⟩ := H
  refine ev_iald hok (waModel_30 hw) h2 dModel_cross_21 ?_
  refine ev_i2l dModel_cross_22 ?_
  refine ev_callS [.int (((I (o + 45) (x1 : Int32).toNatClampNeg) / 10)), .long (((I (o + 21) (((5 * (I o 34)) + x2) : Int32).toNatClampNeg) : Int32).toInt64)] [] (B' := (0, 0)) (B'' := (0, 0)) hok mmModel_least mk_Model_651 rfl (Nat.le_of_ble_eq_true rfl) rfl (Nat.le_of_ble_eq_true rfl) dModel_cross_23 rfl (by decide) H (fun v τ p3 => ?_)
  obtain ⟨r4, I5, L6, rfl, rfl, H⟩ := p3
  refine ev_istore_n dModel_cross_26 (by decide) ?_
  refine ev_iload_n dModel_cross_27 rfl ?_
  refine ev_aload_n dModel_cross_28 rfl ?_
  refine ev_getI hok fk_Model_594 (woModel hw) (fun _ _ _ => rfl) dModel_cross_29 ?_
  refine ev_imul dModel_cross_32 ?_
  refine ev_bipush (100) dModel_cross_33 (by decide) ?_
  refine ev_idiv dModel_cross_35 (by decide) ?_
  refine ev_istore dModel_cross_36 (by decide) ?_
  refine ev_aload_n dModel_cross_38 rfl ?_
  refine ev_getR hok fk_Model_474 (woModel hw) (fun _ _ _ => rfl) (wrModel_78 hw) dModel_cross_39 ?_
  refine ev_iload_n dModel_cross_42 rfl ?_
  refine ev_dup2_11 dModel_cross_43 rfl rfl ?_
  obtain ⟨h7, H⟩ := H
  refine ev_iald hok (waModel_78 hw) h7 dModel_cross_44 ?_
  refine ev_iload_n dModel_cross_45 rfl ?_
  refine ev_isub dModel_cross_46 ?_
  obtain ⟨h9, H⟩ := H
  refine ev_iast hok (waModel_78 hw) h9 dModel_cross_47 ?_
  generalize eI8 : q_u I5 (o + 45) (x1 : Int32).toNatClampNeg ((I5 (o + 45) (x1 : Int32).toNatClampNeg) - r4) = I8
  have H := H I8 eI8
  refine ev_aload_n dModel_cross_48 rfl ?_
  refine ev_getR hok fk_Model_474 (woModel hw) (fun _ _ _ => rfl) (wrModel_78 hw) dModel_cross_49 ?_
  refine ev_iload_n dModel_cross_52 rfl ?_
  refine ev_dup2_11 dModel_cross_53 rfl rfl ?_
  obtain ⟨h10, H⟩ := H
  refine ev_iald hok (waModel_78 hw) h10 dModel_cross_54 ?_
  refine ev_iload_n dModel_cross_55 rfl ?_
  refine ev_iload dModel_cross_56 rfl ?_
  refine ev_isub dModel_cross_58 ?_
  refine ev_iadd dModel_cross_59 ?_
  obtain ⟨h12, H⟩ := H
  refine ev_iast hok (waModel_78 hw) h12 dModel_cross_60 ?_
  generalize eI11 : q_u I8 (o + 45) (x2 : Int32).toNatClampNeg ((I8 (o + 45) (x2 : Int32).toNatClampNeg) + (r4 - ((r4 * (I5 o 110)) / 100))) = I11
  have H := H I11 eI11
  refine ev_aload_n dModel_cross_61 rfl ?_
  refine ev_getR hok fk_Model_694 (woModel hw) (fun _ _ _ => rfl) (wrModel_80 hw) dModel_cross_62 ?_
  refine ev_iload_n dModel_cross_65 rfl ?_
  refine ev_dup2_11 dModel_cross_66 rfl rfl ?_
  obtain ⟨h13, H⟩ := H
  refine ev_iald hok (waModel_80 hw) h13 dModel_cross_67 ?_
  refine ev_iload_n dModel_cross_68 rfl ?_
  refine ev_iload dModel_cross_69 rfl ?_
  refine ev_isub dModel_cross_71 ?_
  refine ev_iadd dModel_cross_72 ?_
  obtain ⟨h15, H⟩ := H
  refine ev_iast hok (waModel_80 hw) h15 dModel_cross_73 ?_
  generalize eI14 : q_u I11 (o + 47) (x2 : Int32).toNatClampNeg ((I11 (o + 47) (x2 : Int32).toNatClampNeg) + (r4 - ((r4 * (I5 o 110)) / 100))) = I14
  have H := H I14 eI14
  refine ev_aload_n dModel_cross_74 rfl ?_
  refine ev_dup dModel_cross_75 rfl ?_
  refine ev_getL hok fk_Model_700 (woModel hw) (fun _ _ _ => rfl) dModel_cross_76 ?_
  refine ev_iload_n dModel_cross_79 rfl ?_
  refine ev_iload dModel_cross_80 rfl ?_
  refine ev_isub dModel_cross_82 ?_
  refine ev_i2l dModel_cross_83 ?_
  refine ev_ladd dModel_cross_84 ?_
  refine ev_putL hok fk_Model_700 (woModel hw) (fun _ _ _ => rfl) rfl rfl dModel_cross_85 ?_
  generalize eL16 : q_u L6 o 115 ((L6 o 115) + ((r4 - ((r4 * (I5 o 110)) / 100)) : Int32).toInt64) = L16
  have H := H L16 eL16
  refine ev_aload_n dModel_cross_88 rfl ?_
  refine ev_dup dModel_cross_89 rfl ?_
  refine ev_getL hok fk_Model_703 (woModel hw) (fun _ _ _ => rfl) dModel_cross_90 ?_
  refine ev_iload dModel_cross_93 rfl ?_
  refine ev_i2l dModel_cross_95 ?_
  refine ev_ladd dModel_cross_96 ?_
  refine ev_putL hok fk_Model_703 (woModel hw) (fun _ _ _ => rfl) rfl rfl dModel_cross_97 ?_
  generalize eL17 : q_u L16 o 116 ((L16 o 116) + (((r4 * (I5 o 110)) / 100) : Int32).toInt64) = L17
  have H := H L17 eL17
  exact ev_vret rfl dModel_cross_100 H
def fModel_days_31 (D : va_G) (cA : FieldType → ClassId) (b : Nat) (E : State → Prop) (o : Nat) (n : Nat) (sh : Nat → qC) (Rf : Nat → Nat → Option Nat) (I : Nat → Nat → Int32) (L : Nat → Nat → Int64) (post : Option Value → qS → Prop) (x1 : Int32) (x2 : Int32) : Prop :=
  post (some (.int ((-1)))) (n, sh, Rf, I, L)
set_option maxHeartbeats 4000000 in
set_option maxRecDepth 20000 in
theorem sModel_days_31 {D : va_G} {cA : FieldType → ClassId} {b : Nat} {E : State → Prop} (o : Nat) (n : Nat) (sh : Nat → qC) (Rf : Nat → Nat → Option Nat) (I : Nat → Nat → Int32) (L : Nat → Nat → Int64) (post : Option Value → qS → Prop) (x1 : Int32) (x2 : Int32) (hok : q_ok (qGG D cA b E)) (hw : WfModel (qGG D cA b E) n sh Rf o) (H : fModel_days_31 D cA b E o n sh Rf I L post x1 x2) : Ev (qGG D cA b E) mModel_days 1 (0, 0) 31 [(0, .ref o), (1, .int x1), (2, .int x2)] [] (n, sh, Rf, I, L) post := by
  unfold fModel_days_31 at H
  refine ev_iconst (-1) dModel_days_31 (by decide) ?_
  refine ev_goto 46 dModel_days_32 (by decide) ?_
  exact ev_iret rfl dModel_days_46 H
def fModel_days_0 (D : va_G) (cA : FieldType → ClassId) (b : Nat) (E : State → Prop) (o : Nat) (n : Nat) (sh : Nat → qC) (Rf : Nat → Nat → Option Nat) (I : Nat → Nat → Int32) (L : Nat → Nat → Int64) (post : Option Value → qS → Prop) (x1 : Int32) (x2 : Int32) : Prop :=
  Ev (qGG D cA b E) mModel_isPoint 0 (0, 0) 0 (lv_args 0 [.int x1]) [] (n, sh, Rf, I, L) (fun v τ => ∃ (r2 : Int32) (I3 : Nat → Nat → Int32) (L4 : Nat → Nat → Int64), v = some (.int r2) ∧ τ = (n, sh, Rf, I3, L4) ∧ ((r2 = 0 → fModel_days_31 D cA b E o n sh Rf I3 L4 post x1 x2) ∧ (¬ r2 = 0 → Ev (qGG D cA b E) mModel_isPoint 0 (0, 0) 0 (lv_args 0 [.int x2]) [] (n, sh, Rf, I3, L4) (fun v τ => ∃ (r7 : Int32) (I8 : Nat → Nat → Int32) (L9 : Nat → Nat → Int64), v = some (.int r7) ∧ τ = (n, sh, Rf, I8, L9) ∧ ((r7 = 0 → fModel_days_31 D cA b E o n sh Rf I8 L9 post x1 x2) ∧ (¬ r7 = 0 → vp_in ((16 * x1) + x2) 256 ∧ (((I8 (o + 25) (((16 * x1) + x2) : Int32).toNatClampNeg) < 1000000 → vp_in ((16 * x1) + x2) 256 ∧ post (some (.int ((I8 (o + 25) (((16 * x1) + x2) : Int32).toNatClampNeg)))) (n, sh, Rf, I8, L9)) ∧ (¬ (I8 (o + 25) (((16 * x1) + x2) : Int32).toNatClampNeg) < 1000000 → fModel_days_31 D cA b E o n sh Rf I8 L9 post x1 x2))))))))
set_option maxHeartbeats 4000000 in
set_option maxRecDepth 20000 in
theorem sModel_days_0 {D : va_G} {cA : FieldType → ClassId} {b : Nat} {E : State → Prop} (o : Nat) (n : Nat) (sh : Nat → qC) (Rf : Nat → Nat → Option Nat) (I : Nat → Nat → Int32) (L : Nat → Nat → Int64) (post : Option Value → qS → Prop) (x1 : Int32) (x2 : Int32) (hok : q_ok (qGG D cA b E)) (hw : WfModel (qGG D cA b E) n sh Rf o) (H : fModel_days_0 D cA b E o n sh Rf I L post x1 x2) : Ev (qGG D cA b E) mModel_days 1 (0, 0) 0 [(0, .ref o), (1, .int x1), (2, .int x2)] [] (n, sh, Rf, I, L) post := by
  unfold fModel_days_0 at H
  refine ev_iload_n dModel_days_0 rfl ?_
  refine ev_callS [.int x1] [] (B' := (0, 0)) (B'' := (0, 0)) hok mmModel_isPoint mk_Model_273 rfl (Nat.le_of_ble_eq_true rfl) rfl (Nat.le_of_ble_eq_true rfl) dModel_days_1 rfl (by decide) H (fun v τ p1 => ?_)
  obtain ⟨r2, I3, L4, rfl, rfl, H⟩ := p1
  refine ev_if_eq 31 dModel_days_4 (by decide) (fun c5 => ?_) (fun c5 => ?_)
  · have H := H.1 c5
    exact ev_sub [(0, .ref o), (1, .int x1), (2, .int x2)] rfl (sModel_days_31 o n sh Rf I3 L4 post x1 x2 hok hw H)
  · have H := H.2 c5
    refine ev_iload_n dModel_days_7 rfl ?_
    refine ev_callS [.int x2] [] (B' := (0, 0)) (B'' := (0, 0)) hok mmModel_isPoint mk_Model_273 rfl (Nat.le_of_ble_eq_true rfl) rfl (Nat.le_of_ble_eq_true rfl) dModel_days_8 rfl (by decide) H (fun v τ p6 => ?_)
    obtain ⟨r7, I8, L9, rfl, rfl, H⟩ := p6
    refine ev_if_eq 31 dModel_days_11 (by decide) (fun c10 => ?_) (fun c10 => ?_)
    · have H := H.1 c10
      exact ev_sub [(0, .ref o), (1, .int x1), (2, .int x2)] rfl (sModel_days_31 o n sh Rf I8 L9 post x1 x2 hok hw H)
    · have H := H.2 c10
      refine ev_aload_n dModel_days_14 rfl ?_
      refine ev_getR hok fk_Model_269 (woModel hw) (fun _ _ _ => rfl) (wrModel_36 hw) dModel_days_15 ?_
      refine ev_bipush (16) dModel_days_18 (by decide) ?_
      refine ev_iload_n dModel_days_20 rfl ?_
      refine ev_imul dModel_days_21 ?_
      refine ev_iload_n dModel_days_22 rfl ?_
      refine ev_iadd dModel_days_23 ?_
      obtain ⟨h11, H⟩ := H
      refine ev_iald hok (waModel_36 hw) h11 dModel_days_24 ?_
      refine ev_ldcw (1000000) dModel_days_25 (q_t7 91 (by decide +kernel) rfl) ?_
      refine ev_icmp_lt 35 dModel_days_28 (by decide) (fun c12 => ?_) (fun c12 => ?_)
      · have H := H.1 c12
        refine ev_aload_n dModel_days_35 rfl ?_
        refine ev_getR hok fk_Model_269 (woModel hw) (fun _ _ _ => rfl) (wrModel_36 hw) dModel_days_36 ?_
        refine ev_bipush (16) dModel_days_39 (by decide) ?_
        refine ev_iload_n dModel_days_41 rfl ?_
        refine ev_imul dModel_days_42 ?_
        refine ev_iload_n dModel_days_43 rfl ?_
        refine ev_iadd dModel_days_44 ?_
        obtain ⟨h13, H⟩ := H
        refine ev_iald hok (waModel_36 hw) h13 dModel_days_45 ?_
        exact ev_iret rfl dModel_days_46 H
      · have H := H.2 c12
        exact ev_sub [(0, .ref o), (1, .int x1), (2, .int x2)] rfl (sModel_days_31 o n sh Rf I8 L9 post x1 x2 hok hw H)
