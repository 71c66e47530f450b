/-! Safety of the reference, parts of a MONTH: by program (spec.py). -/
def wModel_measure : Nat → Bool := fun j => false
set_option maxHeartbeats 4000000 in
set_option maxRecDepth 20000 in
theorem yModel_measure_179 {D : va_G} {cA : FieldType → ClassId} {b : Nat} {E : State → Prop} {R : qRg} {o n : Nat} {sh : Nat → qC} {Rf : Nat → Nat → Option Nat} {I0 : Nat → Nat → Int32} {L0 : Nat → Nat → Int64} {post : Option Value → qS → Prop} (hok : q_ok (qGG D cA b E)) (hw : WfModel (qGG D cA b E) n sh Rf o) (ra : RAModel R o) (hZ : Fz R I0 o wModel_measure) (hR0 : RI R I0) (hp : ∀ (I' : Nat → Nat → Int32) (L' : Nat → Nat → Int64), RI R I' → Fm (fun c => c = o + 25) I0 I' → post none (n, sh, Rf, I', L')) {k163 : Nat} {k171 : Nat} (ho171 : ∀ {x1 : Int32} {x2 : Int32} {I : Nat → Nat → Int32} {L : Nat → Nat → Int64}, RI R I → Fm (fun c => c = o + 25) I0 I → ((0 : Int) ≤ x2.toInt ∧ x2.toInt ≤ 16) → ((0 : Int) ≤ x1.toInt ∧ x1.toInt ≤ 15) → ((16 - x1.toInt).toNat < k163 + 1) → (16 - x2.toInt).toNat < k171 → Ev (qGG D cA b E) mModel_measure 0 (0, 0) 171 [(0, .ref o), (1, .int x1), (2, .int x2)] [] (n, sh, Rf, I, L) post) : ∀ (k : Nat) {x1 : Int32} {x2 : Int32} {x3 : Int32} {I : Nat → Nat → Int32} {L : Nat → Nat → Int64}, RI R I → Fm (fun c => c = o + 25) I0 I → ((0 : Int) ≤ x3.toInt ∧ x3.toInt ≤ 16) → ((0 : Int) ≤ x1.toInt ∧ x1.toInt ≤ 15) → ((0 : Int) ≤ x2.toInt ∧ x2.toInt ≤ 15) → ((16 - x2.toInt).toNat < k171 + 1) → ((16 - x1.toInt).toNat < k163 + 1) → (16 - x3.toInt).toNat < k → Ev (qGG D cA b E) mModel_measure 0 (0, 0) 179 [(0, .ref o), (1, .int x1), (2, .int x2), (3, .int x3)] [] (n, sh, Rf, I, L) post := by
  intro k
  induction k with
  | zero =>
    intro x1 x2 x3 I L hR hf hi0 hi1 hi2 hi3 hi4 hm
    exact absurd hm (Nat.not_lt_zero _)
  | succ k ih =>
    intro x1 x2 x3 I L hR hf hi0 hi1 hi2 hi3 hi4 hm
    refine sModel_measure_179 o n sh Rf I L post x1 x2 x3 hok hw ?_
    unfold fModel_measure_179
    have l_1 : (16 : Int32).toInt = 16 := rfl
    refine ⟨fun c_2 => ?_, fun c_2 => ?_⟩
    · have d_3 := iLe c_2
      have a_5 : (x2 + Int32.ofInt 1).toInt = x2.toInt + (1) := tIc (by omega) (by omega) (by decide) (by decide)
      generalize ez_4 : (x2 + Int32.ofInt 1) = z_4 at a_5 ⊢
      exact ho171 hR hf (by first | omega | (intro h; omega) | exact Or.inl rfl | exact Or.inr rfl) (by first | omega | (intro h; omega) | exact Or.inl rfl | exact Or.inr rfl) (by first | omega | (intro h; omega) | exact Or.inl rfl | exact Or.inr rfl) (by omega)
    · have d_6 := iNle c_2
      have a_7 : (16 * x2).toInt = 16 * x2.toInt := tMulL rfl (by omega) (by omega)
      have a_8 : ((16 * x2) + x1).toInt = (16 * x2).toInt + x1.toInt := tAdd (by omega) (by omega)
      refine ⟨tIn (by omega) (by omega), ?_⟩
      have a_9 : (16 * x1).toInt = 16 * x1.toInt := tMulL rfl (by omega) (by omega)
      have a_10 : ((16 * x1) + x3).toInt = (16 * x1).toInt + x3.toInt := tAdd (by omega) (by omega)
      refine ⟨tIn (by omega) (by omega), ?_⟩
      have a_11 : (16 * x2).toInt = 16 * x2.toInt := tMulL rfl (by omega) (by omega)
      have a_12 : ((16 * x2) + x3).toInt = (16 * x2).toInt + x3.toInt := tAdd (by omega) (by omega)
      refine ⟨tIn (by omega) (by omega), ?_⟩
      refine ⟨fun c_13 => ?_, fun c_13 => ?_⟩
      · have d_14 := iLe c_13
        unfold fModel_measure_239
        have a_16 : (x3 + Int32.ofInt 1).toInt = x3.toInt + (1) := tIc (by omega) (by omega) (by decide) (by decide)
        generalize ez_15 : (x3 + Int32.ofInt 1) = z_15 at a_16 ⊢
        exact ih hR hf (by first | omega | (intro h; omega) | exact Or.inl rfl | exact Or.inr rfl) (by first | omega | (intro h; omega) | exact Or.inl rfl | exact Or.inr rfl) (by first | omega | (intro h; omega) | exact Or.inl rfl | exact Or.inr rfl) (by first | omega | (intro h; omega) | exact Or.inl rfl | exact Or.inr rfl) (by first | omega | (intro h; omega) | exact Or.inl rfl | exact Or.inr rfl) (by omega)
      · have d_17 := iNle c_13
        have a_18 : (16 * x2).toInt = 16 * x2.toInt := tMulL rfl (by omega) (by omega)
        have a_19 : ((16 * x2) + x3).toInt = (16 * x2).toInt + x3.toInt := tAdd (by omega) (by omega)
        refine ⟨tIn (by omega) (by omega), fun I_20 e_21 => ?_⟩
        have hR_22 : RI R I_20 := hR.up ra 25 (by decide) (Or.inl rfl) e_21 (i_lo _) (i_hi _)
        have hf_23 : Fm (fun c => c = o + 25) I0 I_20 := hf.set (by first | rfl | omega | (dsimp only; omega)) e_21
        unfold fModel_measure_239
        have a_25 : (x3 + Int32.ofInt 1).toInt = x3.toInt + (1) := tIc (by omega) (by omega) (by decide) (by decide)
        generalize ez_24 : (x3 + Int32.ofInt 1) = z_24 at a_25 ⊢
        exact ih hR_22 hf_23 (by first | omega | (intro h; omega) | exact Or.inl rfl | exact Or.inr rfl) (by first | omega | (intro h; omega) | exact Or.inl rfl | exact Or.inr rfl) (by first | omega | (intro h; omega) | exact Or.inl rfl | exact Or.inr rfl) (by first | omega | (intro h; omega) | exact Or.inl rfl | exact Or.inr rfl) (by first | omega | (intro h; omega) | exact Or.inl rfl | exact Or.inr rfl) (by omega)
set_option maxHeartbeats 4000000 in
set_option maxRecDepth 20000 in
theorem yModel_measure_171 {D : va_G} {cA : FieldType → ClassId} {b : Nat} {E : State → Prop} {R : qRg} {o n : Nat} {sh : Nat → qC} {Rf : Nat → Nat → Option Nat} {I0 : Nat → Nat → Int32} {L0 : Nat → Nat → Int64} {post : Option Value → qS → Prop} (hok : q_ok (qGG D cA b E)) (hw : WfModel (qGG D cA b E) n sh Rf o) (ra : RAModel R o) (hZ : Fz R I0 o wModel_measure) (hR0 : RI R I0) (hp : ∀ (I' : Nat → Nat → Int32) (L' : Nat → Nat → Int64), RI R I' → Fm (fun c => c = o + 25) I0 I' → post none (n, sh, Rf, I', L')) {k163 : Nat} (ho163 : ∀ {x1 : Int32} {I : Nat → Nat → Int32} {L : Nat → Nat → Int64}, RI R I → Fm (fun c => c = o + 25) I0 I → ((0 : Int) ≤ x1.toInt ∧ x1.toInt ≤ 16) → (16 - x1.toInt).toNat < k163 → Ev (qGG D cA b E) mModel_measure 0 (0, 0) 163 [(0, .ref o), (1, .int x1)] [] (n, sh, Rf, I, L) post) : ∀ (k : Nat) {x1 : Int32} {x2 : Int32} {I : Nat → Nat → Int32} {L : Nat → Nat → Int64}, RI R I → Fm (fun c => c = o + 25) I0 I → ((0 : Int) ≤ x2.toInt ∧ x2.toInt ≤ 16) → ((0 : Int) ≤ x1.toInt ∧ x1.toInt ≤ 15) → ((16 - x1.toInt).toNat < k163 + 1) → (16 - x2.toInt).toNat < k → Ev (qGG D cA b E) mModel_measure 0 (0, 0) 171 [(0, .ref o), (1, .int x1), (2, .int x2)] [] (n, sh, Rf, I, L) post := by
  intro k
  induction k with
  | zero =>
    intro x1 x2 I L hR hf hi0 hi1 hi2 hm
    exact absurd hm (Nat.not_lt_zero _)
  | succ k ih =>
    intro x1 x2 I L hR hf hi0 hi1 hi2 hm
    refine sModel_measure_171 o n sh Rf I L post x1 x2 hok hw ?_
    unfold fModel_measure_171
    have l_26 : (16 : Int32).toInt = 16 := rfl
    refine ⟨fun c_27 => ?_, fun c_27 => ?_⟩
    · have d_28 := iLe c_27
      have a_30 : (x1 + Int32.ofInt 1).toInt = x1.toInt + (1) := tIc (by omega) (by omega) (by decide) (by decide)
      generalize ez_29 : (x1 + Int32.ofInt 1) = z_29 at a_30 ⊢
      exact ho163 hR hf (by first | omega | (intro h; omega) | exact Or.inl rfl | exact Or.inr rfl) (by omega)
    · have d_31 := iNle c_27
      have l_32 : (0 : Int32).toInt = 0 := rfl
      exact yModel_measure_179 (I0 := I0) (L0 := L0) hok hw ra hZ hR0 hp ih _ hR hf (by first | omega | (intro h; omega) | exact Or.inl rfl | exact Or.inr rfl) (by first | omega | (intro h; omega) | exact Or.inl rfl | exact Or.inr rfl) (by first | omega | (intro h; omega) | exact Or.inl rfl | exact Or.inr rfl) (by first | omega | (intro h; omega) | exact Or.inl rfl | exact Or.inr rfl) (by first | omega | (intro h; omega) | exact Or.inl rfl | exact Or.inr rfl) (Nat.lt_succ_self _)
set_option maxHeartbeats 4000000 in
set_option maxRecDepth 20000 in
theorem yModel_measure_163 {D : va_G} {cA : FieldType → ClassId} {b : Nat} {E : State → Prop} {R : qRg} {o n : Nat} {sh : Nat → qC} {Rf : Nat → Nat → Option Nat} {I0 : Nat → Nat → Int32} {L0 : Nat → Nat → Int64} {post : Option Value → qS → Prop} (hok : q_ok (qGG D cA b E)) (hw : WfModel (qGG D cA b E) n sh Rf o) (ra : RAModel R o) (hZ : Fz R I0 o wModel_measure) (hR0 : RI R I0) (hp : ∀ (I' : Nat → Nat → Int32) (L' : Nat → Nat → Int64), RI R I' → Fm (fun c => c = o + 25) I0 I' → post none (n, sh, Rf, I', L')) : ∀ (k : Nat) {x1 : Int32} {I : Nat → Nat → Int32} {L : Nat → Nat → Int64}, RI R I → Fm (fun c => c = o + 25) I0 I → ((0 : Int) ≤ x1.toInt ∧ x1.toInt ≤ 16) → (16 - x1.toInt).toNat < k → Ev (qGG D cA b E) mModel_measure 0 (0, 0) 163 [(0, .ref o), (1, .int x1)] [] (n, sh, Rf, I, L) post := by
  intro k
  induction k with
  | zero =>
    intro x1 I L hR hf hi0 hm
    exact absurd hm (Nat.not_lt_zero _)
  | succ k ih =>
    intro x1 I L hR hf hi0 hm
    refine sModel_measure_163 o n sh Rf I L post x1 hok hw ?_
    unfold fModel_measure_163
    have l_33 : (16 : Int32).toInt = 16 := rfl
    refine ⟨fun c_34 => ?_, fun c_34 => ?_⟩
    · have d_35 := iLe c_34
      exact (hp _ _ hR hf )
    · have d_36 := iNle c_34
      have l_37 : (0 : Int32).toInt = 0 := rfl
      exact yModel_measure_171 (I0 := I0) (L0 := L0) hok hw ra hZ hR0 hp ih _ hR hf (by first | omega | (intro h; omega) | exact Or.inl rfl | exact Or.inr rfl) (by first | omega | (intro h; omega) | exact Or.inl rfl | exact Or.inr rfl) (by first | omega | (intro h; omega) | exact Or.inl rfl | exact Or.inr rfl) (Nat.lt_succ_self _)
set_option maxHeartbeats 4000000 in
set_option maxRecDepth 20000 in
theorem yModel_measure_47 {D : va_G} {cA : FieldType → ClassId} {b : Nat} {E : State → Prop} {R : qRg} {o n : Nat} {sh : Nat → qC} {Rf : Nat → Nat → Option Nat} {I0 : Nat → Nat → Int32} {L0 : Nat → Nat → Int64} {post : Option Value → qS → Prop} (hok : q_ok (qGG D cA b E)) (hw : WfModel (qGG D cA b E) n sh Rf o) (ra : RAModel R o) (hZ : Fz R I0 o wModel_measure) (hR0 : RI R I0) (hp : ∀ (I' : Nat → Nat → Int32) (L' : Nat → Nat → Int64), RI R I' → Fm (fun c => c = o + 25) I0 I' → post none (n, sh, Rf, I', L')) : ∀ (k : Nat) {x1 : Int32} {I : Nat → Nat → Int32} {L : Nat → Nat → Int64}, RI R I → Fm (fun c => c = o + 25) I0 I → ((0 : Int) ≤ x1.toInt ∧ x1.toInt ≤ 48) → (48 - x1.toInt).toNat < k → Ev (qGG D cA b E) mModel_measure 0 (0, 0) 47 [(0, .ref o), (1, .int x1)] [] (n, sh, Rf, I, L) post := by
  intro k
  induction k with
  | zero =>
    intro x1 I L hR hf hi0 hm
    exact absurd hm (Nat.not_lt_zero _)
  | succ k ih =>
    intro x1 I L hR hf hi0 hm
    refine sModel_measure_47 o n sh Rf I L post x1 hok hw ?_
    unfold fModel_measure_47
    have g_38 : (0 : Int) ≤ (I o 34).toInt ∧ (I o 34).toInt ≤ 1 := hR.at0 ra 34 (by decide)
    have l_39 : (24 : Int32).toInt = 24 := rfl
    have a_40 : (24 * (I o 34)).toInt = 24 * (I o 34).toInt := tMulL rfl (by omega) (by omega)
    have g_41 : (0 : Int) ≤ (I o 34).toInt ∧ (I o 34).toInt ≤ 1 := hR.at0 ra 34 (by decide)
    refine ⟨tIn (by omega) (by omega), ?_⟩
    have g_42 : (0 : Int) ≤ (I (o + 6) ((I o 34) : Int32).toNatClampNeg).toInt ∧ (I (o + 6) ((I o 34) : Int32).toNatClampNeg).toInt ≤ 24 := hR.at ra 6 _ (by decide)
    have a_43 : ((24 * (I o 34)) + (I (o + 6) ((I o 34) : Int32).toNatClampNeg)).toInt = (24 * (I o 34)).toInt + (I (o + 6) ((I o 34) : Int32).toNatClampNeg).toInt := tAdd (by omega) (by omega)
    refine ⟨fun c_44 => ?_, fun c_44 => ?_⟩
    · have d_45 := iLe c_44
      have l_46 : (0 : Int32).toInt = 0 := rfl
      exact yModel_measure_163 (I0 := I0) (L0 := L0) hok hw ra hZ hR0 hp  _ hR hf (by first | omega | (intro h; omega) | exact Or.inl rfl | exact Or.inr rfl) (Nat.lt_succ_self _)
    · have d_47 := iNle c_44
      refine ⟨tIn (by omega) (by omega), ?_⟩
      refine ⟨tIn (by omega) (by omega), ?_⟩
      have g_48 : (0 : Int) ≤ (I (o + 10) (x1 : Int32).toNatClampNeg).toInt ∧ (I (o + 10) (x1 : Int32).toNatClampNeg).toInt ≤ 15 := hR.at ra 10 _ (by decide)
      have l_49 : (16 : Int32).toInt = 16 := rfl
      have a_50 : (16 * (I (o + 10) (x1 : Int32).toNatClampNeg)).toInt = 16 * (I (o + 10) (x1 : Int32).toNatClampNeg).toInt := tMulL rfl (by omega) (by omega)
      refine ⟨tIn (by omega) (by omega), ?_⟩
      have g_51 : (0 : Int) ≤ (I (o + 11) (x1 : Int32).toNatClampNeg).toInt ∧ (I (o + 11) (x1 : Int32).toNatClampNeg).toInt ≤ 15 := hR.at ra 11 _ (by decide)
      have a_52 : ((16 * (I (o + 10) (x1 : Int32).toNatClampNeg)) + (I (o + 11) (x1 : Int32).toNatClampNeg)).toInt = (16 * (I (o + 10) (x1 : Int32).toNatClampNeg)).toInt + (I (o + 11) (x1 : Int32).toNatClampNeg).toInt := tAdd (by omega) (by omega)
      refine ⟨tIn (by omega) (by omega), ?_⟩
      refine ⟨fun c_53 => ?_, fun c_53 => ?_⟩
      · have d_54 := iLt c_53
        refine ⟨tIn (by omega) (by omega), ?_⟩
        have g_55 : (0 : Int) ≤ (I (o + 10) (x1 : Int32).toNatClampNeg).toInt ∧ (I (o + 10) (x1 : Int32).toNatClampNeg).toInt ≤ 15 := hR.at ra 10 _ (by decide)
        have a_56 : (16 * (I (o + 10) (x1 : Int32).toNatClampNeg)).toInt = 16 * (I (o + 10) (x1 : Int32).toNatClampNeg).toInt := tMulL rfl (by omega) (by omega)
        refine ⟨tIn (by omega) (by omega), ?_⟩
        have g_57 : (0 : Int) ≤ (I (o + 11) (x1 : Int32).toNatClampNeg).toInt ∧ (I (o + 11) (x1 : Int32).toNatClampNeg).toInt ≤ 15 := hR.at ra 11 _ (by decide)
        have a_58 : ((16 * (I (o + 10) (x1 : Int32).toNatClampNeg)) + (I (o + 11) (x1 : Int32).toNatClampNeg)).toInt = (16 * (I (o + 10) (x1 : Int32).toNatClampNeg)).toInt + (I (o + 11) (x1 : Int32).toNatClampNeg).toInt := tAdd (by omega) (by omega)
        refine ⟨tIn (by omega) (by omega), ?_⟩
        refine ⟨tIn (by omega) (by omega), fun I_59 e_60 => ?_⟩
        have hR_61 : RI R I_59 := hR.up ra 25 (by decide) (Or.inl rfl) e_60 (i_lo _) (i_hi _)
        have hf_62 : Fm (fun c => c = o + 25) I0 I_59 := hf.set (by first | rfl | omega | (dsimp only; omega)) e_60
        have t_63 : (I_59 o 34).toInt = (I o 34).toInt := by rw [← e_60, q_u_ne (by omega)]
        refine ⟨tIn (by omega) (by omega), ?_⟩
        have g_64 : (0 : Int) ≤ (I_59 (o + 11) (x1 : Int32).toNatClampNeg).toInt ∧ (I_59 (o + 11) (x1 : Int32).toNatClampNeg).toInt ≤ 15 := hR_61.at ra 11 _ (by decide)
        have a_65 : (16 * (I_59 (o + 11) (x1 : Int32).toNatClampNeg)).toInt = 16 * (I_59 (o + 11) (x1 : Int32).toNatClampNeg).toInt := tMulL rfl (by omega) (by omega)
        refine ⟨tIn (by omega) (by omega), ?_⟩
        have g_66 : (0 : Int) ≤ (I_59 (o + 10) (x1 : Int32).toNatClampNeg).toInt ∧ (I_59 (o + 10) (x1 : Int32).toNatClampNeg).toInt ≤ 15 := hR_61.at ra 10 _ (by decide)
        have a_67 : ((16 * (I_59 (o + 11) (x1 : Int32).toNatClampNeg)) + (I_59 (o + 10) (x1 : Int32).toNatClampNeg)).toInt = (16 * (I_59 (o + 11) (x1 : Int32).toNatClampNeg)).toInt + (I_59 (o + 10) (x1 : Int32).toNatClampNeg).toInt := tAdd (by omega) (by omega)
        refine ⟨tIn (by omega) (by omega), ?_⟩
        refine ⟨tIn (by omega) (by omega), fun I_68 e_69 => ?_⟩
        have hR_70 : RI R I_68 := hR_61.up ra 25 (by decide) (Or.inl rfl) e_69 (i_lo _) (i_hi _)
        have hf_71 : Fm (fun c => c = o + 25) I0 I_68 := hf_62.set (by first | rfl | omega | (dsimp only; omega)) e_69
        have t_72 : (I_68 o 34).toInt = (I_59 o 34).toInt := by rw [← e_69, q_u_ne (by omega)]
        unfold fModel_measure_155
        have a_74 : (x1 + Int32.ofInt 1).toInt = x1.toInt + (1) := tIc (by omega) (by omega) (by decide) (by decide)
        generalize ez_73 : (x1 + Int32.ofInt 1) = z_73 at a_74 ⊢
        exact ih hR_70 hf_71 (by first | omega | (intro h; omega) | exact Or.inl rfl | exact Or.inr rfl) (by omega)
      · have d_75 := iNlt c_53
        unfold fModel_measure_155
        have a_77 : (x1 + Int32.ofInt 1).toInt = x1.toInt + (1) := tIc (by omega) (by omega) (by decide) (by decide)
        generalize ez_76 : (x1 + Int32.ofInt 1) = z_76 at a_77 ⊢
        exact ih hR hf (by first | omega | (intro h; omega) | exact Or.inl rfl | exact Or.inr rfl) (by omega)
set_option maxHeartbeats 4000000 in
set_option maxRecDepth 20000 in
theorem yModel_measure_2 {D : va_G} {cA : FieldType → ClassId} {b : Nat} {E : State → Prop} {R : qRg} {o n : Nat} {sh : Nat → qC} {Rf : Nat → Nat → Option Nat} {I0 : Nat → Nat → Int32} {L0 : Nat → Nat → Int64} {post : Option Value → qS → Prop} (hok : q_ok (qGG D cA b E)) (hw : WfModel (qGG D cA b E) n sh Rf o) (ra : RAModel R o) (hZ : Fz R I0 o wModel_measure) (hR0 : RI R I0) (hp : ∀ (I' : Nat → Nat → Int32) (L' : Nat → Nat → Int64), RI R I' → Fm (fun c => c = o + 25) I0 I' → post none (n, sh, Rf, I', L')) : ∀ (k : Nat) {x1 : Int32} {I : Nat → Nat → Int32} {L : Nat → Nat → Int64}, RI R I → Fm (fun c => c = o + 25) I0 I → ((0 : Int) ≤ x1.toInt ∧ x1.toInt ≤ 256) → (256 - x1.toInt).toNat < k → Ev (qGG D cA b E) mModel_measure 0 (0, 0) 2 [(0, .ref o), (1, .int x1)] [] (n, sh, Rf, I, L) post := by
  intro k
  induction k with
  | zero =>
    intro x1 I L hR hf hi0 hm
    exact absurd hm (Nat.not_lt_zero _)
  | succ k ih =>
    intro x1 I L hR hf hi0 hm
    refine sModel_measure_2 o n sh Rf I L post x1 hok hw ?_
    unfold fModel_measure_2
    have l_78 : (256 : Int32).toInt = 256 := rfl
    refine ⟨fun c_79 => ?_, fun c_79 => ?_⟩
    · have d_80 := iLe c_79
      have g_81 : (0 : Int) ≤ (I o 34).toInt ∧ (I o 34).toInt ≤ 1 := hR.at0 ra 34 (by decide)
      have l_82 : (24 : Int32).toInt = 24 := rfl
      have a_83 : (24 * (I o 34)).toInt = 24 * (I o 34).toInt := tMulL rfl (by omega) (by omega)
      exact yModel_measure_47 (I0 := I0) (L0 := L0) hok hw ra hZ hR0 hp  _ hR hf (by first | omega | (intro h; omega) | exact Or.inl rfl | exact Or.inr rfl) (Nat.lt_succ_self _)
    · have d_84 := iNle c_79
      have l_85 : (16 : Int32).toInt = 16 := rfl
      have q_86 : (x1 / 16 : Int32).toInt = x1.toInt / 16 := tDiv rfl (by decide) (by omega)
      have q_87 : (x1 / 16 : Int32).toInt = x1.toInt / 16 := tDiv rfl (by decide) (by omega)
      have q_88 : (x1 / 16 * 16 : Int32).toInt = x1.toInt / 16 * 16 := (tMul (c := 16) rfl (by omega) (by omega)).trans (by omega)
      have q_89 : (x1 - x1 / 16 * 16).toInt = x1.toInt - x1.toInt / 16 * 16 := (tSub (by omega) (by omega)).trans (by omega)
      refine ⟨fun c_90 => ?_, fun c_90 => ?_⟩
      · have d_91 := iNe c_90
        unfold fModel_measure_32
        have l_92 : (1000000 : Int32).toInt = 1000000 := rfl
        refine ⟨tIn (by omega) (by omega), fun I_93 e_94 => ?_⟩
        have hR_95 : RI R I_93 := hR.up ra 25 (by decide) (Or.inl rfl) e_94 (i_lo _) (i_hi _)
        have hf_96 : Fm (fun c => c = o + 25) I0 I_93 := hf.set (by first | rfl | omega | (dsimp only; omega)) e_94
        have a_98 : (x1 + Int32.ofInt 1).toInt = x1.toInt + (1) := tIc (by omega) (by omega) (by decide) (by decide)
        generalize ez_97 : (x1 + Int32.ofInt 1) = z_97 at a_98 ⊢
        exact ih hR_95 hf_96 (by first | omega | (intro h; omega) | exact Or.inl rfl | exact Or.inr rfl) (by omega)
      · have d_99 := iEq c_90
        unfold fModel_measure_32
        have l_100 : (0 : Int32).toInt = 0 := rfl
        refine ⟨tIn (by omega) (by omega), fun I_101 e_102 => ?_⟩
        have hR_103 : RI R I_101 := hR.up ra 25 (by decide) (Or.inl rfl) e_102 (i_lo _) (i_hi _)
        have hf_104 : Fm (fun c => c = o + 25) I0 I_101 := hf.set (by first | rfl | omega | (dsimp only; omega)) e_102
        have a_106 : (x1 + Int32.ofInt 1).toInt = x1.toInt + (1) := tIc (by omega) (by omega) (by decide) (by decide)
        generalize ez_105 : (x1 + Int32.ofInt 1) = z_105 at a_106 ⊢
        exact ih hR_103 hf_104 (by first | omega | (intro h; omega) | exact Or.inl rfl | exact Or.inr rfl) (by omega)
set_option maxHeartbeats 4000000 in
set_option maxRecDepth 20000 in
theorem yc_Model_measure {D : va_G} {cA : FieldType → ClassId} {b : Nat} {E : State → Prop} {R : qRg} {o n : Nat} {sh : Nat → qC} {Rf : Nat → Nat → Option Nat} {I0 : Nat → Nat → Int32} {L0 : Nat → Nat → Int64} {post : Option Value → qS → Prop} (hok : q_ok (qGG D cA b E)) (hw : WfModel (qGG D cA b E) n sh Rf o) (ra : RAModel R o) (hZ : Fz R I0 o wModel_measure) (hR0 : RI R I0) (hR : RI R I0) (hp : ∀ (I' : Nat → Nat → Int32) (L' : Nat → Nat → Int64), RI R I' → Fm (fun c => c = o + 25) I0 I' → post none (n, sh, Rf, I', L')) : Ev (qGG D cA b E) mModel_measure 0 (0, 0) 0 (lv_args 0 [.ref o]) [] (n, sh, Rf, I0, L0) post := by
  have hf : Fm (fun c => c = o + 25) I0 I0 := Fm.rf
  refine sModel_measure_0 o n sh Rf I0 L0 post  hok hw ?_
  unfold fModel_measure_0
  have l_107 : (0 : Int32).toInt = 0 := rfl
  exact yModel_measure_2 (I0 := I0) (L0 := L0) hok hw ra hZ hR0 hp  _ hR hf (by first | omega | (intro h; omega) | exact Or.inl rfl | exact Or.inr rfl) (Nat.lt_succ_self _)
theorem y_Model_measure {D : va_G} {cA : FieldType → ClassId} {b : Nat} {E : State → Prop} {R : qRg} {o n : Nat} {sh : Nat → qC} {Rf : Nat → Nat → Option Nat} {I0 : Nat → Nat → Int32} {L0 : Nat → Nat → Int64} {post : Option Value → qS → Prop} (hok : q_ok (qGG D cA b E)) (hw : WfModel (qGG D cA b E) n sh Rf o) (ra : RAModel R o) (hR : RI R I0) (hp : ∀ (I' : Nat → Nat → Int32) (L' : Nat → Nat → Int64), RI R I' → Fm (fun c => c = o + 25) I0 I' → Kp wModel_measure I0 I' o → post none (n, sh, Rf, I', L')) : Ev (qGG D cA b E) mModel_measure 0 (0, 0) 0 (lv_args 0 [.ref o]) [] (n, sh, Rf, I0, L0) post :=
  yc_Model_measure (R := fzR R I0 o wModel_measure) hok hw (fzA ra hR _) fzZ (fzI hR) (fzI hR) (fun I' L' h1 h2  => hp I' L' (fzB hR h1) h2 (fzP h1) )
set_option maxHeartbeats 4000000 in
set_option maxRecDepth 20000 in
theorem yModel_isTold_99 {D : va_G} {cA : FieldType → ClassId} {b : Nat} {E : State → Prop} {R : qRg} {o n : Nat} {sh : Nat → qC} {Rf : Nat → Nat → Option Nat} {I0 : Nat → Nat → Int32} {L0 : Nat → Nat → Int64} {post : Option Value → qS → Prop} {p1 : Int64} (hok : q_ok (qGG D cA b E)) (hw : WfModel (qGG D cA b E) n sh Rf o) (ra : RAModel R o) (hR : RI R I0) (hp : ∀ (r : Int32) , (Bz r) → post (some (.int r)) (n, sh, Rf, I0, L0)) : ∀ (k : Nat) {x1 : Int64} {x3 : Int32} , ((0 : Int) ≤ x3.toInt ∧ x3.toInt ≤ 10) → (10 - x3.toInt).toNat < k → Ev (qGG D cA b E) mModel_isTold 0 (0, 0) 99 [(0, .ref o), (1, .long x1), (3, .int x3)] [] (n, sh, Rf, I0, L0) post := by
  intro k
  induction k with
  | zero =>
    intro x1 x3 hi0 hm
    exact absurd hm (Nat.not_lt_zero _)
  | succ k ih =>
    intro x1 x3 hi0 hm
    refine sModel_isTold_99 o n sh Rf I0 L0 post x1 x3 hok hw ?_
    unfold fModel_isTold_99
    have g_1 : (0 : Int) ≤ (I0 o 35).toInt ∧ (I0 o 35).toInt ≤ 1 := hR.at0 ra 35 (by decide)
    have l_2 : (5 : Int32).toInt = 5 := rfl
    have a_3 : (5 * (I0 o 35)).toInt = 5 * (I0 o 35).toInt := tMulL rfl (by omega) (by omega)
    have g_4 : (0 : Int) ≤ (I0 o 35).toInt ∧ (I0 o 35).toInt ≤ 1 := hR.at0 ra 35 (by decide)
    refine ⟨tIn (by omega) (by omega), ?_⟩
    have g_5 : (0 : Int) ≤ (I0 (o + 9) ((I0 o 35) : Int32).toNatClampNeg).toInt ∧ (I0 (o + 9) ((I0 o 35) : Int32).toNatClampNeg).toInt ≤ 5 := hR.at ra 9 _ (by decide)
    have a_6 : ((5 * (I0 o 35)) + (I0 (o + 9) ((I0 o 35) : Int32).toNatClampNeg)).toInt = (5 * (I0 o 35)).toInt + (I0 (o + 9) ((I0 o 35) : Int32).toNatClampNeg).toInt := tAdd (by omega) (by omega)
    refine ⟨fun c_7 => ?_, fun c_7 => ?_⟩
    · have d_8 := iLe c_7
      have l_9 : (0 : Int32).toInt = 0 := rfl
      exact (hp _ (Or.inl rfl))
    · have d_10 := iNle c_7
      refine ⟨tIn (by omega) (by omega), ?_⟩
      have l_11 : (0 : Int32).toInt = 0 := rfl
      refine ⟨fun c_12 => ?_, fun c_12 => ?_⟩
      · have d_13 := iNe c_12
        have a_15 : (x3 + Int32.ofInt 1).toInt = x3.toInt + (1) := tIc (by omega) (by omega) (by decide) (by decide)
        generalize ez_14 : (x3 + Int32.ofInt 1) = z_14 at a_15 ⊢
        exact ih (by first | omega | (intro h; omega) | exact Or.inl rfl | exact Or.inr rfl) (by omega)
      · have d_16 := iEq c_12
        have l_17 : (1 : Int32).toInt = 1 := rfl
        exact (hp _ (Or.inr rfl))
set_option maxHeartbeats 4000000 in
set_option maxRecDepth 20000 in
theorem yModel_isTold_53 {D : va_G} {cA : FieldType → ClassId} {b : Nat} {E : State → Prop} {R : qRg} {o n : Nat} {sh : Nat → qC} {Rf : Nat → Nat → Option Nat} {I0 : Nat → Nat → Int32} {L0 : Nat → Nat → Int64} {post : Option Value → qS → Prop} {p1 : Int64} (hok : q_ok (qGG D cA b E)) (hw : WfModel (qGG D cA b E) n sh Rf o) (ra : RAModel R o) (hR : RI R I0) (hp : ∀ (r : Int32) , (Bz r) → post (some (.int r)) (n, sh, Rf, I0, L0)) : ∀ (k : Nat) {x1 : Int64} {x3 : Int32} , ((0 : Int) ≤ x3.toInt ∧ x3.toInt ≤ 6) → (6 - x3.toInt).toNat < k → Ev (qGG D cA b E) mModel_isTold 0 (0, 0) 53 [(0, .ref o), (1, .long x1), (3, .int x3)] [] (n, sh, Rf, I0, L0) post := by
  intro k
  induction k with
  | zero =>
    intro x1 x3 hi0 hm
    exact absurd hm (Nat.not_lt_zero _)
  | succ k ih =>
    intro x1 x3 hi0 hm
    refine sModel_isTold_53 o n sh Rf I0 L0 post x1 x3 hok hw ?_
    unfold fModel_isTold_53
    have g_18 : (0 : Int) ≤ (I0 o 35).toInt ∧ (I0 o 35).toInt ≤ 1 := hR.at0 ra 35 (by decide)
    have l_19 : (3 : Int32).toInt = 3 := rfl
    have a_20 : (3 * (I0 o 35)).toInt = 3 * (I0 o 35).toInt := tMulL rfl (by omega) (by omega)
    have g_21 : (0 : Int) ≤ (I0 o 35).toInt ∧ (I0 o 35).toInt ≤ 1 := hR.at0 ra 35 (by decide)
    refine ⟨tIn (by omega) (by omega), ?_⟩
    have g_22 : (0 : Int) ≤ (I0 (o + 8) ((I0 o 35) : Int32).toNatClampNeg).toInt ∧ (I0 (o + 8) ((I0 o 35) : Int32).toNatClampNeg).toInt ≤ 3 := hR.at ra 8 _ (by decide)
    have a_23 : ((3 * (I0 o 35)) + (I0 (o + 8) ((I0 o 35) : Int32).toNatClampNeg)).toInt = (3 * (I0 o 35)).toInt + (I0 (o + 8) ((I0 o 35) : Int32).toNatClampNeg).toInt := tAdd (by omega) (by omega)
    refine ⟨fun c_24 => ?_, fun c_24 => ?_⟩
    · have d_25 := iLe c_24
      have g_26 : (0 : Int) ≤ (I0 o 35).toInt ∧ (I0 o 35).toInt ≤ 1 := hR.at0 ra 35 (by decide)
      have l_27 : (5 : Int32).toInt = 5 := rfl
      have a_28 : (5 * (I0 o 35)).toInt = 5 * (I0 o 35).toInt := tMulL rfl (by omega) (by omega)
      exact yModel_isTold_99 (I0 := I0) (L0 := L0) (p1 := p1) hok hw ra hR hp  _ (by first | omega | (intro h; omega) | exact Or.inl rfl | exact Or.inr rfl) (Nat.lt_succ_self _)
    · have d_29 := iNle c_24
      refine ⟨tIn (by omega) (by omega), ?_⟩
      have l_30 : (0 : Int32).toInt = 0 := rfl
      refine ⟨fun c_31 => ?_, fun c_31 => ?_⟩
      · have d_32 := iNe c_31
        have a_34 : (x3 + Int32.ofInt 1).toInt = x3.toInt + (1) := tIc (by omega) (by omega) (by decide) (by decide)
        generalize ez_33 : (x3 + Int32.ofInt 1) = z_33 at a_34 ⊢
        exact ih (by first | omega | (intro h; omega) | exact Or.inl rfl | exact Or.inr rfl) (by omega)
      · have d_35 := iEq c_31
        have l_36 : (1 : Int32).toInt = 1 := rfl
        exact (hp _ (Or.inr rfl))
set_option maxHeartbeats 4000000 in
set_option maxRecDepth 20000 in
theorem yModel_isTold_7 {D : va_G} {cA : FieldType → ClassId} {b : Nat} {E : State → Prop} {R : qRg} {o n : Nat} {sh : Nat → qC} {Rf : Nat → Nat → Option Nat} {I0 : Nat → Nat → Int32} {L0 : Nat → Nat → Int64} {post : Option Value → qS → Prop} {p1 : Int64} (hok : q_ok (qGG D cA b E)) (hw : WfModel (qGG D cA b E) n sh Rf o) (ra : RAModel R o) (hR : RI R I0) (hp : ∀ (r : Int32) , (Bz r) → post (some (.int r)) (n, sh, Rf, I0, L0)) : ∀ (k : Nat) {x1 : Int64} {x3 : Int32} , ((0 : Int) ≤ x3.toInt ∧ x3.toInt ≤ 6) → (6 - x3.toInt).toNat < k → Ev (qGG D cA b E) mModel_isTold 0 (0, 0) 7 [(0, .ref o), (1, .long x1), (3, .int x3)] [] (n, sh, Rf, I0, L0) post := by
  intro k
  induction k with
  | zero =>
    intro x1 x3 hi0 hm
    exact absurd hm (Nat.not_lt_zero _)
  | succ k ih =>
    intro x1 x3 hi0 hm
    refine sModel_isTold_7 o n sh Rf I0 L0 post x1 x3 hok hw ?_
    unfold fModel_isTold_7
    have g_37 : (0 : Int) ≤ (I0 o 35).toInt ∧ (I0 o 35).toInt ≤ 1 := hR.at0 ra 35 (by decide)
    have l_38 : (3 : Int32).toInt = 3 := rfl
    have a_39 : (3 * (I0 o 35)).toInt = 3 * (I0 o 35).toInt := tMulL rfl (by omega) (by omega)
    have g_40 : (0 : Int) ≤ (I0 o 35).toInt ∧ (I0 o 35).toInt ≤ 1 := hR.at0 ra 35 (by decide)
    refine ⟨tIn (by omega) (by omega), ?_⟩
    have g_41 : (0 : Int) ≤ (I0 (o + 7) ((I0 o 35) : Int32).toNatClampNeg).toInt ∧ (I0 (o + 7) ((I0 o 35) : Int32).toNatClampNeg).toInt ≤ 3 := hR.at ra 7 _ (by decide)
    have a_42 : ((3 * (I0 o 35)) + (I0 (o + 7) ((I0 o 35) : Int32).toNatClampNeg)).toInt = (3 * (I0 o 35)).toInt + (I0 (o + 7) ((I0 o 35) : Int32).toNatClampNeg).toInt := tAdd (by omega) (by omega)
    refine ⟨fun c_43 => ?_, fun c_43 => ?_⟩
    · have d_44 := iLe c_43
      have g_45 : (0 : Int) ≤ (I0 o 35).toInt ∧ (I0 o 35).toInt ≤ 1 := hR.at0 ra 35 (by decide)
      have a_46 : (3 * (I0 o 35)).toInt = 3 * (I0 o 35).toInt := tMulL rfl (by omega) (by omega)
      exact yModel_isTold_53 (I0 := I0) (L0 := L0) (p1 := p1) hok hw ra hR hp  _ (by first | omega | (intro h; omega) | exact Or.inl rfl | exact Or.inr rfl) (Nat.lt_succ_self _)
    · have d_47 := iNle c_43
      refine ⟨tIn (by omega) (by omega), ?_⟩
      have l_48 : (0 : Int32).toInt = 0 := rfl
      refine ⟨fun c_49 => ?_, fun c_49 => ?_⟩
      · have d_50 := iNe c_49
        have a_52 : (x3 + Int32.ofInt 1).toInt = x3.toInt + (1) := tIc (by omega) (by omega) (by decide) (by decide)
        generalize ez_51 : (x3 + Int32.ofInt 1) = z_51 at a_52 ⊢
        exact ih (by first | omega | (intro h; omega) | exact Or.inl rfl | exact Or.inr rfl) (by omega)
      · have d_53 := iEq c_49
        have l_54 : (1 : Int32).toInt = 1 := rfl
        exact (hp _ (Or.inr rfl))
set_option maxHeartbeats 4000000 in
set_option maxRecDepth 20000 in
theorem y_Model_isTold {D : va_G} {cA : FieldType → ClassId} {b : Nat} {E : State → Prop} {R : qRg} {o n : Nat} {sh : Nat → qC} {Rf : Nat → Nat → Option Nat} {I0 : Nat → Nat → Int32} {L0 : Nat → Nat → Int64} {post : Option Value → qS → Prop} {p1 : Int64} (hok : q_ok (qGG D cA b E)) (hw : WfModel (qGG D cA b E) n sh Rf o) (ra : RAModel R o) (hR : RI R I0) (hp : ∀ (r : Int32) , (Bz r) → post (some (.int r)) (n, sh, Rf, I0, L0)) : Ev (qGG D cA b E) mModel_isTold 0 (0, 0) 0 (lv_args 0 [.ref o, .long p1]) [] (n, sh, Rf, I0, L0) post := by
  refine sModel_isTold_0 o n sh Rf I0 L0 post p1 hok hw ?_
  unfold fModel_isTold_0
  have g_55 : (0 : Int) ≤ (I0 o 35).toInt ∧ (I0 o 35).toInt ≤ 1 := hR.at0 ra 35 (by decide)
  have l_56 : (3 : Int32).toInt = 3 := rfl
  have a_57 : (3 * (I0 o 35)).toInt = 3 * (I0 o 35).toInt := tMulL rfl (by omega) (by omega)
  exact yModel_isTold_7 (I0 := I0) (L0 := L0) (p1 := p1) hok hw ra hR hp  _ (by first | omega | (intro h; omega) | exact Or.inl rfl | exact Or.inr rfl) (Nat.lt_succ_self _)
def wModel_worthOf : Nat → Bool := fun j => Nat.beq j 130 || false
set_option maxHeartbeats 4000000 in
set_option maxRecDepth 20000 in
theorem yModel_worthOf_26 {D : va_G} {cA : FieldType → ClassId} {b : Nat} {E : State → Prop} {R : qRg} {o n : Nat} {sh : Nat → qC} {Rf : Nat → Nat → Option Nat} {I0 : Nat → Nat → Int32} {L0 : Nat → Nat → Int64} {post : Option Value → qS → Prop} {p1 : Int32} (hok : q_ok (qGG D cA b E)) (hw : WfModel (qGG D cA b E) n sh Rf o) (ra : RAModel R o) (hz130 : R.2 130 = true) (hZ : Fz R I0 o wModel_worthOf) (hR0 : RI R I0) (hq0 : (0 : Int) ≤ p1.toInt ∧ p1.toInt ≤ 2) (hp : ∀ (r : Int64) (I' : Nat → Nat → Int32) (L' : Nat → Nat → Int64), RI R I' → Fm (fun c => c = o) I0 I' → post (some (.long r)) (n, sh, Rf, I', L')) : ∀ (k : Nat) {x1 : Int32} {x2 : Int64} {x4 : Int64} {x6 : Int32} {I : Nat → Nat → Int32} {L : Nat → Nat → Int64}, RI R I → Fm (fun c => c = o) I0 I → ((0 : Int) ≤ x6.toInt ∧ x6.toInt ≤ 5) → ((0 : Int) ≤ x1.toInt ∧ x1.toInt ≤ 2) → (5 - x6.toInt).toNat < k → Ev (qGG D cA b E) mModel_worthOf 2 (0, 0) 26 [(0, .ref o), (1, .int x1), (2, .long x2), (4, .long x4), (6, .int x6)] [] (n, sh, Rf, I, L) post := by
  intro k
  induction k with
  | zero =>
    intro x1 x2 x4 x6 I L hR hf hi0 hi1 hm
    exact absurd hm (Nat.not_lt_zero _)
  | succ k ih =>
    intro x1 x2 x4 x6 I L hR hf hi0 hi1 hm
    refine sModel_worthOf_26 o n sh Rf I L post x1 x2 x4 x6 hok hw ?_
    unfold fModel_worthOf_26
    refine y_Model_towns hok hw ra hR (fun r_1 u_2 => ⟨r_1, I, L, rfl, rfl, ?_⟩)
    refine ⟨fun c_3 => ?_, fun c_3 => ?_⟩
    · have d_4 := iLe c_3
      exact (hp _ _ _ hR hf )
    · have d_5 := iNle c_3
      refine y_Model_panAt hok hw ra (by first | omega | (intro h; omega) | exact Or.inl rfl | exact Or.inr rfl) hR (fun r_6 u_7 => ⟨r_6, I, L, rfl, rfl, ?_⟩)
      have l_8 : (16 : Int32).toInt = 16 := rfl
      have a_9 : (16 * r_6).toInt = 16 * r_6.toInt := tMulL rfl (by omega) (by omega)
      refine y_Model_townAt hok hw ra (by first | omega | (intro h; omega) | exact Or.inl rfl | exact Or.inr rfl) hR (fun r_10 u_11 => ⟨r_10, I, L, rfl, rfl, ?_⟩)
      have a_12 : ((16 * r_6) + r_10).toInt = (16 * r_6).toInt + r_10.toInt := tAdd (by omega) (by omega)
      refine ⟨tIn (by omega) (by omega), ?_⟩
      have g_13 : (0 : Int) ≤ (I o 34).toInt ∧ (I o 34).toInt ≤ 1 := hR.at0 ra 34 (by decide)
      have l_14 : (3 : Int32).toInt = 3 := rfl
      have a_15 : (3 * (I o 34)).toInt = 3 * (I o 34).toInt := tMulL rfl (by omega) (by omega)
      have a_16 : ((3 * (I o 34)) + x1).toInt = (3 * (I o 34)).toInt + x1.toInt := tAdd (by omega) (by omega)
      refine ⟨tIn (by omega) (by omega), ?_⟩
      have g_17 : (0 : Int) ≤ (I o 34).toInt ∧ (I o 34).toInt ≤ 1 := hR.at0 ra 34 (by decide)
      have l_18 : (5 : Int32).toInt = 5 := rfl
      have a_19 : (5 * (I o 34)).toInt = 5 * (I o 34).toInt := tMulL rfl (by omega) (by omega)
      have a_20 : ((5 * (I o 34)) + x6).toInt = (5 * (I o 34)).toInt + x6.toInt := tAdd (by omega) (by omega)
      refine ⟨tIn (by omega) (by omega), ?_⟩
      have l_21 : (0 : Int32).toInt = 0 := rfl
      refine ⟨fun c_22 => ?_, fun c_22 => ?_⟩
      · have d_23 := iEq c_22
        unfold fModel_worthOf_170
        have a_25 : (x6 + Int32.ofInt 1).toInt = x6.toInt + (1) := tIc (by omega) (by omega) (by decide) (by decide)
        generalize ez_24 : (x6 + Int32.ofInt 1) = z_24 at a_25 ⊢
        exact ih hR hf (by first | omega | (intro h; omega) | exact Or.inl rfl | exact Or.inr rfl) (by first | omega | (intro h; omega) | exact Or.inl rfl | exact Or.inr rfl) (by omega)
      · have d_26 := iNe c_22
        have l_27 : (1000000 : Int32).toInt = 1000000 := rfl
        refine ⟨fun c_28 => ?_, fun c_28 => ?_⟩
        · have d_29 := iLt c_28
          refine y_Model_priceOf hok hw ra (by first | omega | (intro h; omega) | exact Or.inl rfl | exact Or.inr rfl) hR (fun r_30  => ⟨r_30, I, L, rfl, rfl, ?_⟩)
          refine y_Model_monthsOf hok hR (fun r_31  => ⟨r_31, I, L, rfl, rfl, ?_⟩)
          have g_32 : (-1 : Int) ≤ (I o 120).toInt ∧ (I o 120).toInt ≤ 4 := hR.at0 ra 120 (by decide)
          refine ⟨fun c_33 => ?_, fun c_33 => ?_⟩
          · have d_34 := iLt c_33
            unfold fModel_worthOf_161
            refine fun I_35 e_36 => ?_
            have hR_37 : RI R I_35 := hR.up0 (k := 120) ra (by decide) (Or.inr hz130) e_36 (show (-1 : Int) ≤ x6.toInt by omega) (show x6.toInt ≤ (4 : Int) by omega)
            have hf_38 : Fm (fun c => c = o) I0 I_35 := hf.set (by first | rfl | omega | (dsimp only; omega)) e_36
            have t_39 : (I_35 o 34).toInt = (I o 34).toInt := by rw [← e_36, q_u_k (by decide)]
            have t_40 : (I_35 o 120).toInt = x6.toInt := by rw [← e_36, q_u_at]
            unfold fModel_worthOf_170
            have a_42 : (x6 + Int32.ofInt 1).toInt = x6.toInt + (1) := tIc (by omega) (by omega) (by decide) (by decide)
            generalize ez_41 : (x6 + Int32.ofInt 1) = z_41 at a_42 ⊢
            exact ih hR_37 hf_38 (by first | omega | (intro h; omega) | exact Or.inl rfl | exact Or.inr rfl) (by first | omega | (intro h; omega) | exact Or.inl rfl | exact Or.inr rfl) (by omega)
          · have d_43 := iNlt c_33
            refine ⟨fun c_44 => ?_, fun c_44 => ?_⟩
            · have d_45 := iLt c_44
              unfold fModel_worthOf_161
              refine fun I_46 e_47 => ?_
              have hR_48 : RI R I_46 := hR.up0 (k := 120) ra (by decide) (Or.inr hz130) e_47 (show (-1 : Int) ≤ x6.toInt by omega) (show x6.toInt ≤ (4 : Int) by omega)
              have hf_49 : Fm (fun c => c = o) I0 I_46 := hf.set (by first | rfl | omega | (dsimp only; omega)) e_47
              have t_50 : (I_46 o 34).toInt = (I o 34).toInt := by rw [← e_47, q_u_k (by decide)]
              have t_51 : (I_46 o 120).toInt = x6.toInt := by rw [← e_47, q_u_at]
              unfold fModel_worthOf_170
              have a_53 : (x6 + Int32.ofInt 1).toInt = x6.toInt + (1) := tIc (by omega) (by omega) (by decide) (by decide)
              generalize ez_52 : (x6 + Int32.ofInt 1) = z_52 at a_53 ⊢
              exact ih hR_48 hf_49 (by first | omega | (intro h; omega) | exact Or.inl rfl | exact Or.inr rfl) (by first | omega | (intro h; omega) | exact Or.inl rfl | exact Or.inr rfl) (by omega)
            · have d_54 := iNlt c_44
              unfold fModel_worthOf_170
              have a_56 : (x6 + Int32.ofInt 1).toInt = x6.toInt + (1) := tIc (by omega) (by omega) (by decide) (by decide)
              generalize ez_55 : (x6 + Int32.ofInt 1) = z_55 at a_56 ⊢
              exact ih hR hf (by first | omega | (intro h; omega) | exact Or.inl rfl | exact Or.inr rfl) (by first | omega | (intro h; omega) | exact Or.inl rfl | exact Or.inr rfl) (by omega)
        · have d_57 := iNlt c_28
          unfold fModel_worthOf_170
          have a_59 : (x6 + Int32.ofInt 1).toInt = x6.toInt + (1) := tIc (by omega) (by omega) (by decide) (by decide)
          generalize ez_58 : (x6 + Int32.ofInt 1) = z_58 at a_59 ⊢
          exact ih hR hf (by first | omega | (intro h; omega) | exact Or.inl rfl | exact Or.inr rfl) (by first | omega | (intro h; omega) | exact Or.inl rfl | exact Or.inr rfl) (by omega)
set_option maxHeartbeats 4000000 in
set_option maxRecDepth 20000 in
theorem yc_Model_worthOf {D : va_G} {cA : FieldType → ClassId} {b : Nat} {E : State → Prop} {R : qRg} {o n : Nat} {sh : Nat → qC} {Rf : Nat → Nat → Option Nat} {I0 : Nat → Nat → Int32} {L0 : Nat → Nat → Int64} {post : Option Value → qS → Prop} {p1 : Int32} (hok : q_ok (qGG D cA b E)) (hw : WfModel (qGG D cA b E) n sh Rf o) (ra : RAModel R o) (hz130 : R.2 130 = true) (hZ : Fz R I0 o wModel_worthOf) (hR0 : RI R I0) (hq0 : (0 : Int) ≤ p1.toInt ∧ p1.toInt ≤ 2) (hR : RI R I0) (hp : ∀ (r : Int64) (I' : Nat → Nat → Int32) (L' : Nat → Nat → Int64), RI R I' → Fm (fun c => c = o) I0 I' → post (some (.long r)) (n, sh, Rf, I', L')) : Ev (qGG D cA b E) mModel_worthOf 2 (0, 0) 0 (lv_args 0 [.ref o, .int p1]) [] (n, sh, Rf, I0, L0) post := by
  have hf : Fm (fun c => c = o) I0 I0 := Fm.rf
  refine sModel_worthOf_0 o n sh Rf I0 L0 post p1 hok hw ?_
  unfold fModel_worthOf_0
  have l_60 : (-1 : Int32).toInt = -1 := rfl
  refine fun I_61 e_62 => ?_
  have hR_63 : RI R I_61 := hR.up0 (k := 120) ra (by decide) (Or.inr hz130) e_62 (show (-1 : Int) ≤ ((-1) : Int32).toInt by omega) (show ((-1) : Int32).toInt ≤ (4 : Int) by omega)
  have hf_64 : Fm (fun c => c = o) I0 I_61 := hf.set (by first | rfl | omega | (dsimp only; omega)) e_62
  have t_65 : (I_61 o 120).toInt = ((-1) : Int32).toInt := by rw [← e_62, q_u_at]
  refine y_Model_waitingAt hok hw ra hR_63 (fun r_66  => ⟨r_66, I_61, L0, rfl, rfl, ?_⟩)
  refine y_Model_aTwelfth hok hw ra (by first | omega | (intro h; omega) | exact Or.inl rfl | exact Or.inr rfl) hR_63 (fun r_67 u_68 => ⟨r_67, I_61, L0, rfl, rfl, ?_⟩)
  refine ⟨fun h => absurd (iEq h) (by have : (0 : Int32).toInt = 0 := rfl; omega), ?_⟩
  have l_69 : (0 : Int32).toInt = 0 := rfl
  exact yModel_worthOf_26 (I0 := I0) (L0 := L0) (p1 := p1) hok hw ra hz130 hZ hR0 hq0 hp  _ hR_63 hf_64 (by first | omega | (intro h; omega) | exact Or.inl rfl | exact Or.inr rfl) (by first | omega | (intro h; omega) | exact Or.inl rfl | exact Or.inr rfl) (Nat.lt_succ_self _)
theorem y_Model_worthOf {D : va_G} {cA : FieldType → ClassId} {b : Nat} {E : State → Prop} {R : qRg} {o n : Nat} {sh : Nat → qC} {Rf : Nat → Nat → Option Nat} {I0 : Nat → Nat → Int32} {L0 : Nat → Nat → Int64} {post : Option Value → qS → Prop} {p1 : Int32} (hok : q_ok (qGG D cA b E)) (hw : WfModel (qGG D cA b E) n sh Rf o) (ra : RAModel R o) (hz130 : R.2 130 = true) (hq0 : (0 : Int) ≤ p1.toInt ∧ p1.toInt ≤ 2) (hR : RI R I0) (hp : ∀ (r : Int64) (I' : Nat → Nat → Int32) (L' : Nat → Nat → Int64), RI R I' → Fm (fun c => c = o) I0 I' → Kp wModel_worthOf I0 I' o → post (some (.long r)) (n, sh, Rf, I', L')) : Ev (qGG D cA b E) mModel_worthOf 2 (0, 0) 0 (lv_args 0 [.ref o, .int p1]) [] (n, sh, Rf, I0, L0) post :=
  yc_Model_worthOf (R := fzR R I0 o wModel_worthOf) hok hw (fzA ra hR _) (fzT hz130 rfl) fzZ (fzI hR) hq0 (fzI hR) (fun r I' L' h1 h2  => hp r I' L' (fzB hR h1) h2 (fzP h1) )
def wModel_bestPan : Nat → Bool := fun j => Nat.beq j 130 || false
set_option maxHeartbeats 4000000 in
set_option maxRecDepth 20000 in
theorem yModel_bestPan_11 {D : va_G} {cA : FieldType → ClassId} {b : Nat} {E : State → Prop} {R : qRg} {o n : Nat} {sh : Nat → qC} {Rf : Nat → Nat → Option Nat} {I0 : Nat → Nat → Int32} {L0 : Nat → Nat → Int64} {post : Option Value → qS → Prop} (hok : q_ok (qGG D cA b E)) (hw : WfModel (qGG D cA b E) n sh Rf o) (ra : RAModel R o) (hz130 : R.2 130 = true) (hZ : Fz R I0 o wModel_bestPan) (hR0 : RI R I0) (hp : ∀ (r : Int32) (I' : Nat → Nat → Int32) (L' : Nat → Nat → Int64), RI R I' → Fm (fun c => c = o) I0 I' → (((-1 : Int) ≤ r.toInt ∧ r.toInt ≤ 2)) → post (some (.int r)) (n, sh, Rf, I', L')) : ∀ (k : Nat) {x1 : Int32} {x2 : Int32} {I : Nat → Nat → Int32} {L : Nat → Nat → Int64}, RI R I → Fm (fun c => c = o) I0 I → ((0 : Int) ≤ x2.toInt ∧ x2.toInt ≤ 3) → ((-1 : Int) ≤ x1.toInt ∧ x1.toInt ≤ 2) → (3 - x2.toInt).toNat < k → Ev (qGG D cA b E) mModel_bestPan 3 (0, 0) 11 [(0, .ref o), (1, .int x1), (2, .int x2)] [] (n, sh, Rf, I, L) post := by
  intro k
  induction k with
  | zero =>
    intro x1 x2 I L hR hf hi0 hi1 hm
    exact absurd hm (Nat.not_lt_zero _)
  | succ k ih =>
    intro x1 x2 I L hR hf hi0 hi1 hm
    refine sModel_bestPan_11 o n sh Rf I L post x1 x2 hok hw ?_
    unfold fModel_bestPan_11
    refine y_Model_pans hok hw ra hR (fun r_1 u_2 => ⟨r_1, I, L, rfl, rfl, ?_⟩)
    refine ⟨fun c_3 => ?_, fun c_3 => ?_⟩
    · have d_4 := iLe c_3
      exact (hp _ _ _ hR hf (by first | omega | (intro h; omega) | exact Or.inl rfl | exact Or.inr rfl))
    · have d_5 := iNle c_3
      refine y_Model_worthOf hok hw ra hz130 (by first | omega | (intro h; omega) | exact Or.inl rfl | exact Or.inr rfl) hR (fun r_6 I_7 L_8 hR_9 fr_10 kp_11  => ⟨r_6, I_7, L_8, rfl, rfl, ?_⟩)
      have hf_12 : Fm (fun c => c = o) I0 I_7 := hf.call fr_10 (fun c hc => by first | exact hc | (dsimp only at hc ⊢; omega) | omega)
      have g_13 : (-1 : Int) ≤ (I_7 o 120).toInt ∧ (I_7 o 120).toInt ≤ 4 := hR_9.at0 ra 120 (by decide)
      have l_14 : (0 : Int32).toInt = 0 := rfl
      refine ⟨fun c_15 => ?_, fun c_15 => ?_⟩
      · have d_16 := iLt c_15
        unfold fModel_bestPan_55
        have a_18 : (x2 + Int32.ofInt 1).toInt = x2.toInt + (1) := tIc (by omega) (by omega) (by decide) (by decide)
        generalize ez_17 : (x2 + Int32.ofInt 1) = z_17 at a_18 ⊢
        exact ih hR_9 hf_12 (by first | omega | (intro h; omega) | exact Or.inl rfl | exact Or.inr rfl) (by first | omega | (intro h; omega) | exact Or.inl rfl | exact Or.inr rfl) (by omega)
      · have d_19 := iNlt c_15
        refine ⟨fun c_20 => ?_, fun c_20 => ?_⟩
        · have d_21 := iLt c_20
          unfold fModel_bestPan_48
          refine fun L_22 e_23 => ?_
          unfold fModel_bestPan_55
          have a_25 : (x2 + Int32.ofInt 1).toInt = x2.toInt + (1) := tIc (by omega) (by omega) (by decide) (by decide)
          generalize ez_24 : (x2 + Int32.ofInt 1) = z_24 at a_25 ⊢
          exact ih hR_9 hf_12 (by first | omega | (intro h; omega) | exact Or.inl rfl | exact Or.inr rfl) (by first | omega | (intro h; omega) | exact Or.inl rfl | exact Or.inr rfl) (by omega)
        · have d_26 := iNlt c_20
          refine ⟨fun c_27 => ?_, fun c_27 => ?_⟩
          · have d_28 := iLt c_27
            unfold fModel_bestPan_48
            refine fun L_29 e_30 => ?_
            unfold fModel_bestPan_55
            have a_32 : (x2 + Int32.ofInt 1).toInt = x2.toInt + (1) := tIc (by omega) (by omega) (by decide) (by decide)
            generalize ez_31 : (x2 + Int32.ofInt 1) = z_31 at a_32 ⊢
            exact ih hR_9 hf_12 (by first | omega | (intro h; omega) | exact Or.inl rfl | exact Or.inr rfl) (by first | omega | (intro h; omega) | exact Or.inl rfl | exact Or.inr rfl) (by omega)
          · have d_33 := iNlt c_27
            unfold fModel_bestPan_55
            have a_35 : (x2 + Int32.ofInt 1).toInt = x2.toInt + (1) := tIc (by omega) (by omega) (by decide) (by decide)
            generalize ez_34 : (x2 + Int32.ofInt 1) = z_34 at a_35 ⊢
            exact ih hR_9 hf_12 (by first | omega | (intro h; omega) | exact Or.inl rfl | exact Or.inr rfl) (by first | omega | (intro h; omega) | exact Or.inl rfl | exact Or.inr rfl) (by omega)
set_option maxHeartbeats 4000000 in
set_option maxRecDepth 20000 in
theorem yc_Model_bestPan {D : va_G} {cA : FieldType → ClassId} {b : Nat} {E : State → Prop} {R : qRg} {o n : Nat} {sh : Nat → qC} {Rf : Nat → Nat → Option Nat} {I0 : Nat → Nat → Int32} {L0 : Nat → Nat → Int64} {post : Option Value → qS → Prop} (hok : q_ok (qGG D cA b E)) (hw : WfModel (qGG D cA b E) n sh Rf o) (ra : RAModel R o) (hz130 : R.2 130 = true) (hZ : Fz R I0 o wModel_bestPan) (hR0 : RI R I0) (hR : RI R I0) (hp : ∀ (r : Int32) (I' : Nat → Nat → Int32) (L' : Nat → Nat → Int64), RI R I' → Fm (fun c => c = o) I0 I' → (((-1 : Int) ≤ r.toInt ∧ r.toInt ≤ 2)) → post (some (.int r)) (n, sh, Rf, I', L')) : Ev (qGG D cA b E) mModel_bestPan 3 (0, 0) 0 (lv_args 0 [.ref o]) [] (n, sh, Rf, I0, L0) post := by
  have hf : Fm (fun c => c = o) I0 I0 := Fm.rf
  refine sModel_bestPan_0 o n sh Rf I0 L0 post  hok hw ?_
  unfold fModel_bestPan_0
  refine fun L_36 e_37 => ?_
  have l_38 : (-1 : Int32).toInt = -1 := rfl
  have l_39 : (0 : Int32).toInt = 0 := rfl
  exact yModel_bestPan_11 (I0 := I0) (L0 := L0) hok hw ra hz130 hZ hR0 hp  _ hR hf (by first | omega | (intro h; omega) | exact Or.inl rfl | exact Or.inr rfl) (by first | omega | (intro h; omega) | exact Or.inl rfl | exact Or.inr rfl) (Nat.lt_succ_self _)
theorem y_Model_bestPan {D : va_G} {cA : FieldType → ClassId} {b : Nat} {E : State → Prop} {R : qRg} {o n : Nat} {sh : Nat → qC} {Rf : Nat → Nat → Option Nat} {I0 : Nat → Nat → Int32} {L0 : Nat → Nat → Int64} {post : Option Value → qS → Prop} (hok : q_ok (qGG D cA b E)) (hw : WfModel (qGG D cA b E) n sh Rf o) (ra : RAModel R o) (hz130 : R.2 130 = true) (hR : RI R I0) (hp : ∀ (r : Int32) (I' : Nat → Nat → Int32) (L' : Nat → Nat → Int64), RI R I' → Fm (fun c => c = o) I0 I' → Kp wModel_bestPan I0 I' o → (((-1 : Int) ≤ r.toInt ∧ r.toInt ≤ 2)) → post (some (.int r)) (n, sh, Rf, I', L')) : Ev (qGG D cA b E) mModel_bestPan 3 (0, 0) 0 (lv_args 0 [.ref o]) [] (n, sh, Rf, I0, L0) post :=
  yc_Model_bestPan (R := fzR R I0 o wModel_bestPan) hok hw (fzA ra hR _) (fzT hz130 rfl) fzZ (fzI hR) (fzI hR) (fun r I' L' h1 h2 u0 => hp r I' L' (fzB hR h1) h2 (fzP h1) u0)
def wModel_eat : Nat → Bool := fun j => false
set_option maxHeartbeats 4000000 in
set_option maxRecDepth 20000 in
theorem yModel_eat_104 {D : va_G} {cA : FieldType → ClassId} {b : Nat} {E : State → Prop} {R : qRg} {o n : Nat} {sh : Nat → qC} {Rf : Nat → Nat → Option Nat} {I0 : Nat → Nat → Int32} {L0 : Nat → Nat → Int64} {post : Option Value → qS → Prop} (hok : q_ok (qGG D cA b E)) (hw : WfModel (qGG D cA b E) n sh Rf o) (ra : RAModel R o) (hZ : Fz R I0 o wModel_eat) (hR0 : RI R I0) (hp : ∀ (I' : Nat → Nat → Int32) (L' : Nat → Nat → Int64), RI R I' → Fm (fun c => c = o + 42 ∨ c = o + 43 ∨ c = o + 45) I0 I' → post none (n, sh, Rf, I', L')) : ∀ (k : Nat) {x1 : Int32} {I : Nat → Nat → Int32} {L : Nat → Nat → Int64}, RI R I → Fm (fun c => c = o + 42 ∨ c = o + 43 ∨ c = o + 45) I0 I → ((0 : Int) ≤ x1.toInt ∧ x1.toInt ≤ 5) → (5 - x1.toInt).toNat < k → Ev (qGG D cA b E) mModel_eat 1 (0, 0) 104 [(0, .ref o), (1, .int x1)] [] (n, sh, Rf, I, L) post := by
  intro k
  induction k with
  | zero =>
    intro x1 I L hR hf hi0 hm
    exact absurd hm (Nat.not_lt_zero _)
  | succ k ih =>
    intro x1 I L hR hf hi0 hm
    refine sModel_eat_104 o n sh Rf I L post x1 hok hw ?_
    unfold fModel_eat_104
    refine y_Model_towns hok hw ra hR (fun r_1 u_2 => ⟨r_1, I, L, rfl, rfl, ?_⟩)
    refine ⟨fun c_3 => ?_, fun c_3 => ?_⟩
    · have d_4 := iLe c_3
      exact (hp _ _ hR hf )
    · have d_5 := iNle c_3
      have g_6 : (0 : Int) ≤ (I o 34).toInt ∧ (I o 34).toInt ≤ 1 := hR.at0 ra 34 (by decide)
      have l_7 : (5 : Int32).toInt = 5 := rfl
      have a_8 : (5 * (I o 34)).toInt = 5 * (I o 34).toInt := tMulL rfl (by omega) (by omega)
      have a_9 : ((5 * (I o 34)) + x1).toInt = (5 * (I o 34)).toInt + x1.toInt := tAdd (by omega) (by omega)
      refine ⟨tIn (by omega) (by omega), ?_⟩
      refine ⟨tIn (by omega) (by omega), ?_⟩
      refine ⟨tIn (by omega) (by omega), ?_⟩
      refine ⟨fun c_10 => ?_, fun c_10 => ?_⟩
      · have d_11 := iLe c_10
        unfold fModel_eat_153
        refine ⟨tIn (by omega) (by omega), fun I_12 e_13 => ?_⟩
        have hR_14 : RI R I_12 := hR.up ra 45 (by decide) (Or.inl rfl) e_13 (i_lo _) (i_hi _)
        have hf_15 : Fm (fun c => c = o + 42 ∨ c = o + 43 ∨ c = o + 45) I0 I_12 := hf.set (by first | rfl | omega | (dsimp only; omega)) e_13
        have t_16 : (I_12 o 34).toInt = (I o 34).toInt := by rw [← e_13, q_u_ne (by omega)]
        have a_18 : (x1 + Int32.ofInt 1).toInt = x1.toInt + (1) := tIc (by omega) (by omega) (by decide) (by decide)
        generalize ez_17 : (x1 + Int32.ofInt 1) = z_17 at a_18 ⊢
        exact ih hR_14 hf_15 (by first | omega | (intro h; omega) | exact Or.inl rfl | exact Or.inr rfl) (by omega)
      · have d_19 := iNle c_10
        refine ⟨tIn (by omega) (by omega), ?_⟩
        unfold fModel_eat_153
        refine ⟨tIn (by omega) (by omega), fun I_20 e_21 => ?_⟩
        have hR_22 : RI R I_20 := hR.up ra 45 (by decide) (Or.inl rfl) e_21 (i_lo _) (i_hi _)
        have hf_23 : Fm (fun c => c = o + 42 ∨ c = o + 43 ∨ c = o + 45) I0 I_20 := hf.set (by first | rfl | omega | (dsimp only; omega)) e_21
        have t_24 : (I_20 o 34).toInt = (I o 34).toInt := by rw [← e_21, q_u_ne (by omega)]
        have a_26 : (x1 + Int32.ofInt 1).toInt = x1.toInt + (1) := tIc (by omega) (by omega) (by decide) (by decide)
        generalize ez_25 : (x1 + Int32.ofInt 1) = z_25 at a_26 ⊢
        exact ih hR_22 hf_23 (by first | omega | (intro h; omega) | exact Or.inl rfl | exact Or.inr rfl) (by omega)
set_option maxHeartbeats 4000000 in
set_option maxRecDepth 20000 in
theorem yModel_eat_2 {D : va_G} {cA : FieldType → ClassId} {b : Nat} {E : State → Prop} {R : qRg} {o n : Nat} {sh : Nat → qC} {Rf : Nat → Nat → Option Nat} {I0 : Nat → Nat → Int32} {L0 : Nat → Nat → Int64} {post : Option Value → qS → Prop} (hok : q_ok (qGG D cA b E)) (hw : WfModel (qGG D cA b E) n sh Rf o) (ra : RAModel R o) (hZ : Fz R I0 o wModel_eat) (hR0 : RI R I0) (hp : ∀ (I' : Nat → Nat → Int32) (L' : Nat → Nat → Int64), RI R I' → Fm (fun c => c = o + 42 ∨ c = o + 43 ∨ c = o + 45) I0 I' → post none (n, sh, Rf, I', L')) : ∀ (k : Nat) {x1 : Int32} {I : Nat → Nat → Int32} {L : Nat → Nat → Int64}, RI R I → Fm (fun c => c = o + 42 ∨ c = o + 43 ∨ c = o + 45) I0 I → ((0 : Int) ≤ x1.toInt ∧ x1.toInt ≤ 3) → (3 - x1.toInt).toNat < k → Ev (qGG D cA b E) mModel_eat 1 (0, 0) 2 [(0, .ref o), (1, .int x1)] [] (n, sh, Rf, I, L) post := by
  intro k
  induction k with
  | zero =>
    intro x1 I L hR hf hi0 hm
    exact absurd hm (Nat.not_lt_zero _)
  | succ k ih =>
    intro x1 I L hR hf hi0 hm
    refine sModel_eat_2 o n sh Rf I L post x1 hok hw ?_
    unfold fModel_eat_2
    refine y_Model_forts hok hw ra hR (fun r_27 u_28 => ⟨r_27, I, L, rfl, rfl, ?_⟩)
    refine ⟨fun c_29 => ?_, fun c_29 => ?_⟩
    · have d_30 := iLe c_29
      have l_31 : (0 : Int32).toInt = 0 := rfl
      exact yModel_eat_104 (I0 := I0) (L0 := L0) hok hw ra hZ hR0 hp  _ hR hf (by first | omega | (intro h; omega) | exact Or.inl rfl | exact Or.inr rfl) (Nat.lt_succ_self _)
    · have d_32 := iNle c_29
      have g_33 : (0 : Int) ≤ (I o 34).toInt ∧ (I o 34).toInt ≤ 1 := hR.at0 ra 34 (by decide)
      have l_34 : (3 : Int32).toInt = 3 := rfl
      have a_35 : (3 * (I o 34)).toInt = 3 * (I o 34).toInt := tMulL rfl (by omega) (by omega)
      have a_36 : ((3 * (I o 34)) + x1).toInt = (3 * (I o 34)).toInt + x1.toInt := tAdd (by omega) (by omega)
      refine ⟨tIn (by omega) (by omega), ?_⟩
      refine ⟨tIn (by omega) (by omega), ?_⟩
      refine ⟨fun c_37 => ?_, fun c_37 => ?_⟩
      · have d_38 := iLe c_37
        unfold fModel_eat_51
        have l_39 : (0 : Int32).toInt = 0 := rfl
        refine ⟨tIn (by omega) (by omega), fun I_40 e_41 => ?_⟩
        have hR_42 : RI R I_40 := hR.up ra 43 (by decide) (Or.inl rfl) e_41 (i_lo _) (i_hi _)
        have hf_43 : Fm (fun c => c = o + 42 ∨ c = o + 43 ∨ c = o + 45) I0 I_40 := hf.set (by first | rfl | omega | (dsimp only; omega)) e_41
        have t_44 : (I_40 o 34).toInt = (I o 34).toInt := by rw [← e_41, q_u_ne (by omega)]
        refine ⟨tIn (by omega) (by omega), ?_⟩
        refine ⟨fun c_45 => ?_, fun c_45 => ?_⟩
        · have d_46 := iLe c_45
          refine ⟨tIn (by omega) (by omega), ?_⟩
          unfold fModel_eat_79
          refine ⟨tIn (by omega) (by omega), fun I_47 e_48 => ?_⟩
          have hR_49 : RI R I_47 := hR_42.up ra 42 (by decide) (Or.inl rfl) e_48 (i_lo _) (i_hi _)
          have hf_50 : Fm (fun c => c = o + 42 ∨ c = o + 43 ∨ c = o + 45) I0 I_47 := hf_43.set (by first | rfl | omega | (dsimp only; omega)) e_48
          have t_51 : (I_47 o 34).toInt = (I_40 o 34).toInt := by rw [← e_48, q_u_ne (by omega)]
          refine ⟨tIn (by omega) (by omega), ?_⟩
          refine fun L_52 e_53 => ?_
          have a_55 : (x1 + Int32.ofInt 1).toInt = x1.toInt + (1) := tIc (by omega) (by omega) (by decide) (by decide)
          generalize ez_54 : (x1 + Int32.ofInt 1) = z_54 at a_55 ⊢
          exact ih hR_49 hf_50 (by first | omega | (intro h; omega) | exact Or.inl rfl | exact Or.inr rfl) (by omega)
        · have d_56 := iNle c_45
          unfold fModel_eat_79
          refine ⟨tIn (by omega) (by omega), fun I_57 e_58 => ?_⟩
          have hR_59 : RI R I_57 := hR_42.up ra 42 (by decide) (Or.inl rfl) e_58 (i_lo _) (i_hi _)
          have hf_60 : Fm (fun c => c = o + 42 ∨ c = o + 43 ∨ c = o + 45) I0 I_57 := hf_43.set (by first | rfl | omega | (dsimp only; omega)) e_58
          have t_61 : (I_57 o 34).toInt = (I_40 o 34).toInt := by rw [← e_58, q_u_ne (by omega)]
          refine ⟨tIn (by omega) (by omega), ?_⟩
          refine fun L_62 e_63 => ?_
          have a_65 : (x1 + Int32.ofInt 1).toInt = x1.toInt + (1) := tIc (by omega) (by omega) (by decide) (by decide)
          generalize ez_64 : (x1 + Int32.ofInt 1) = z_64 at a_65 ⊢
          exact ih hR_59 hf_60 (by first | omega | (intro h; omega) | exact Or.inl rfl | exact Or.inr rfl) (by omega)
      · have d_66 := iNle c_37
        refine ⟨tIn (by omega) (by omega), ?_⟩
        unfold fModel_eat_51
        refine ⟨tIn (by omega) (by omega), fun I_67 e_68 => ?_⟩
        have hR_69 : RI R I_67 := hR.up ra 43 (by decide) (Or.inl rfl) e_68 (i_lo _) (i_hi _)
        have hf_70 : Fm (fun c => c = o + 42 ∨ c = o + 43 ∨ c = o + 45) I0 I_67 := hf.set (by first | rfl | omega | (dsimp only; omega)) e_68
        have t_71 : (I_67 o 34).toInt = (I o 34).toInt := by rw [← e_68, q_u_ne (by omega)]
        refine ⟨tIn (by omega) (by omega), ?_⟩
        refine ⟨fun c_72 => ?_, fun c_72 => ?_⟩
        · have d_73 := iLe c_72
          refine ⟨tIn (by omega) (by omega), ?_⟩
          unfold fModel_eat_79
          refine ⟨tIn (by omega) (by omega), fun I_74 e_75 => ?_⟩
          have hR_76 : RI R I_74 := hR_69.up ra 42 (by decide) (Or.inl rfl) e_75 (i_lo _) (i_hi _)
          have hf_77 : Fm (fun c => c = o + 42 ∨ c = o + 43 ∨ c = o + 45) I0 I_74 := hf_70.set (by first | rfl | omega | (dsimp only; omega)) e_75
          have t_78 : (I_74 o 34).toInt = (I_67 o 34).toInt := by rw [← e_75, q_u_ne (by omega)]
          refine ⟨tIn (by omega) (by omega), ?_⟩
          refine fun L_79 e_80 => ?_
          have a_82 : (x1 + Int32.ofInt 1).toInt = x1.toInt + (1) := tIc (by omega) (by omega) (by decide) (by decide)
          generalize ez_81 : (x1 + Int32.ofInt 1) = z_81 at a_82 ⊢
          exact ih hR_76 hf_77 (by first | omega | (intro h; omega) | exact Or.inl rfl | exact Or.inr rfl) (by omega)
        · have d_83 := iNle c_72
          unfold fModel_eat_79
          have l_84 : (0 : Int32).toInt = 0 := rfl
          refine ⟨tIn (by omega) (by omega), fun I_85 e_86 => ?_⟩
          have hR_87 : RI R I_85 := hR_69.up ra 42 (by decide) (Or.inl rfl) e_86 (i_lo _) (i_hi _)
          have hf_88 : Fm (fun c => c = o + 42 ∨ c = o + 43 ∨ c = o + 45) I0 I_85 := hf_70.set (by first | rfl | omega | (dsimp only; omega)) e_86
          have t_89 : (I_85 o 34).toInt = (I_67 o 34).toInt := by rw [← e_86, q_u_ne (by omega)]
          refine ⟨tIn (by omega) (by omega), ?_⟩
          refine fun L_90 e_91 => ?_
          have a_93 : (x1 + Int32.ofInt 1).toInt = x1.toInt + (1) := tIc (by omega) (by omega) (by decide) (by decide)
          generalize ez_92 : (x1 + Int32.ofInt 1) = z_92 at a_93 ⊢
          exact ih hR_87 hf_88 (by first | omega | (intro h; omega) | exact Or.inl rfl | exact Or.inr rfl) (by omega)
set_option maxHeartbeats 4000000 in
set_option maxRecDepth 20000 in
theorem yc_Model_eat {D : va_G} {cA : FieldType → ClassId} {b : Nat} {E : State → Prop} {R : qRg} {o n : Nat} {sh : Nat → qC} {Rf : Nat → Nat → Option Nat} {I0 : Nat → Nat → Int32} {L0 : Nat → Nat → Int64} {post : Option Value → qS → Prop} (hok : q_ok (qGG D cA b E)) (hw : WfModel (qGG D cA b E) n sh Rf o) (ra : RAModel R o) (hZ : Fz R I0 o wModel_eat) (hR0 : RI R I0) (hR : RI R I0) (hp : ∀ (I' : Nat → Nat → Int32) (L' : Nat → Nat → Int64), RI R I' → Fm (fun c => c = o + 42 ∨ c = o + 43 ∨ c = o + 45) I0 I' → post none (n, sh, Rf, I', L')) : Ev (qGG D cA b E) mModel_eat 1 (0, 0) 0 (lv_args 0 [.ref o]) [] (n, sh, Rf, I0, L0) post := by
  have hf : Fm (fun c => c = o + 42 ∨ c = o + 43 ∨ c = o + 45) I0 I0 := Fm.rf
  refine sModel_eat_0 o n sh Rf I0 L0 post  hok hw ?_
  unfold fModel_eat_0
  have l_94 : (0 : Int32).toInt = 0 := rfl
  exact yModel_eat_2 (I0 := I0) (L0 := L0) hok hw ra hZ hR0 hp  _ hR hf (by first | omega | (intro h; omega) | exact Or.inl rfl | exact Or.inr rfl) (Nat.lt_succ_self _)
theorem y_Model_eat {D : va_G} {cA : FieldType → ClassId} {b : Nat} {E : State → Prop} {R : qRg} {o n : Nat} {sh : Nat → qC} {Rf : Nat → Nat → Option Nat} {I0 : Nat → Nat → Int32} {L0 : Nat → Nat → Int64} {post : Option Value → qS → Prop} (hok : q_ok (qGG D cA b E)) (hw : WfModel (qGG D cA b E) n sh Rf o) (ra : RAModel R o) (hR : RI R I0) (hp : ∀ (I' : Nat → Nat → Int32) (L' : Nat → Nat → Int64), RI R I' → Fm (fun c => c = o + 42 ∨ c = o + 43 ∨ c = o + 45) I0 I' → Kp wModel_eat I0 I' o → post none (n, sh, Rf, I', L')) : Ev (qGG D cA b E) mModel_eat 1 (0, 0) 0 (lv_args 0 [.ref o]) [] (n, sh, Rf, I0, L0) post :=
  yc_Model_eat (R := fzR R I0 o wModel_eat) hok hw (fzA ra hR _) fzZ (fzI hR) (fzI hR) (fun I' L' h1 h2  => hp I' L' (fzB hR h1) h2 (fzP h1) )
def wModel_cross : Nat → Bool := fun j => false
set_option maxHeartbeats 4000000 in
set_option maxRecDepth 20000 in
theorem yc_Model_cross {D : va_G} {cA : FieldType → ClassId} {b : Nat} {E : State → Prop} {R : qRg} {o n : Nat} {sh : Nat → qC} {Rf : Nat → Nat → Option Nat} {I0 : Nat → Nat → Int32} {L0 : Nat → Nat → Int64} {post : Option Value → qS → Prop} {p1 : Int32} {p2 : Int32} (hok : q_ok (qGG D cA b E)) (hw : WfModel (qGG D cA b E) n sh Rf o) (ra : RAModel R o) (hZ : Fz R I0 o wModel_cross) (hR0 : RI R I0) (hq0 : (0 : Int) ≤ p1.toInt ∧ p1.toInt ≤ 4) (hq1 : (0 : Int) ≤ p2.toInt ∧ p2.toInt ≤ 4) (hR : RI R I0) (hp : ∀ (I' : Nat → Nat → Int32) (L' : Nat → Nat → Int64), RI R I' → Fm (fun c => c = o + 45 ∨ c = o + 47) I0 I' → post none (n, sh, Rf, I', L')) : Ev (qGG D cA b E) mModel_cross 1 (0, 0) 0 (lv_args 0 [.ref o, .int p1, .int p2]) [] (n, sh, Rf, I0, L0) post := by
  have hf : Fm (fun c => c = o + 45 ∨ c = o + 47) I0 I0 := Fm.rf
  refine sModel_cross_0 o n sh Rf I0 L0 post p1 p2 hok hw ?_
  unfold fModel_cross_0
  refine ⟨tIn (by omega) (by omega), ?_⟩
  have g_1 : (0 : Int) ≤ (I0 o 34).toInt ∧ (I0 o 34).toInt ≤ 1 := hR.at0 ra 34 (by decide)
  have l_2 : (5 : Int32).toInt = 5 := rfl
  have a_3 : (5 * (I0 o 34)).toInt = 5 * (I0 o 34).toInt := tMulL rfl (by omega) (by omega)
  have a_4 : ((5 * (I0 o 34)) + p2).toInt = (5 * (I0 o 34)).toInt + p2.toInt := tAdd (by omega) (by omega)
  refine ⟨tIn (by omega) (by omega), ?_⟩
  refine y_Model_least hok hR (fun r_5  => ⟨r_5, I0, L0, rfl, rfl, ?_⟩)
  refine ⟨tIn (by omega) (by omega), ?_⟩
  refine ⟨tIn (by omega) (by omega), fun I_6 e_7 => ?_⟩
  have hR_8 : RI R I_6 := hR.up ra 45 (by decide) (Or.inl rfl) e_7 (i_lo _) (i_hi _)
  have hf_9 : Fm (fun c => c = o + 45 ∨ c = o + 47) I0 I_6 := hf.set (by first | rfl | omega | (dsimp only; omega)) e_7
  have t_10 : (I_6 o 34).toInt = (I0 o 34).toInt := by rw [← e_7, q_u_ne (by omega)]
  refine ⟨tIn (by omega) (by omega), ?_⟩
  refine ⟨tIn (by omega) (by omega), fun I_11 e_12 => ?_⟩
  have hR_13 : RI R I_11 := hR_8.up ra 45 (by decide) (Or.inl rfl) e_12 (i_lo _) (i_hi _)
  have hf_14 : Fm (fun c => c = o + 45 ∨ c = o + 47) I0 I_11 := hf_9.set (by first | rfl | omega | (dsimp only; omega)) e_12
  have t_15 : (I_11 o 34).toInt = (I_6 o 34).toInt := by rw [← e_12, q_u_ne (by omega)]
  refine ⟨tIn (by omega) (by omega), ?_⟩
  refine ⟨tIn (by omega) (by omega), fun I_16 e_17 => ?_⟩
  have hR_18 : RI R I_16 := hR_13.up ra 47 (by decide) (Or.inl rfl) e_17 (i_lo _) (i_hi _)
  have hf_19 : Fm (fun c => c = o + 45 ∨ c = o + 47) I0 I_16 := hf_14.set (by first | rfl | omega | (dsimp only; omega)) e_17
  have t_20 : (I_16 o 34).toInt = (I_11 o 34).toInt := by rw [← e_17, q_u_ne (by omega)]
  refine fun L_21 e_22 => ?_
  refine fun L_23 e_24 => ?_
  exact (hp _ _ hR_18 hf_19 )
theorem y_Model_cross {D : va_G} {cA : FieldType → ClassId} {b : Nat} {E : State → Prop} {R : qRg} {o n : Nat} {sh : Nat → qC} {Rf : Nat → Nat → Option Nat} {I0 : Nat → Nat → Int32} {L0 : Nat → Nat → Int64} {post : Option Value → qS → Prop} {p1 : Int32} {p2 : Int32} (hok : q_ok (qGG D cA b E)) (hw : WfModel (qGG D cA b E) n sh Rf o) (ra : RAModel R o) (hq0 : (0 : Int) ≤ p1.toInt ∧ p1.toInt ≤ 4) (hq1 : (0 : Int) ≤ p2.toInt ∧ p2.toInt ≤ 4) (hR : RI R I0) (hp : ∀ (I' : Nat → Nat → Int32) (L' : Nat → Nat → Int64), RI R I' → Fm (fun c => c = o + 45 ∨ c = o + 47) I0 I' → Kp wModel_cross I0 I' o → post none (n, sh, Rf, I', L')) : Ev (qGG D cA b E) mModel_cross 1 (0, 0) 0 (lv_args 0 [.ref o, .int p1, .int p2]) [] (n, sh, Rf, I0, L0) post :=
  yc_Model_cross (R := fzR R I0 o wModel_cross) hok hw (fzA ra hR _) fzZ (fzI hR) hq0 hq1 (fzI hR) (fun I' L' h1 h2  => hp I' L' (fzB hR h1) h2 (fzP h1) )
def wModel_smuggle : Nat → Bool := fun j => false
set_option maxHeartbeats 4000000 in
set_option maxRecDepth 20000 in
theorem yModel_smuggle_37 {D : va_G} {cA : FieldType → ClassId} {b : Nat} {E : State → Prop} {R : qRg} {o n : Nat} {sh : Nat → qC} {Rf : Nat → Nat → Option Nat} {I0 : Nat → Nat → Int32} {L0 : Nat → Nat → Int64} {post : Option Value → qS → Prop} (hok : q_ok (qGG D cA b E)) (hw : WfModel (qGG D cA b E) n sh Rf o) (ra : RAModel R o) (hZ : Fz R I0 o wModel_smuggle) (hR0 : RI R I0) (hp : ∀ (I' : Nat → Nat → Int32) (L' : Nat → Nat → Int64), RI R I' → Fm (fun c => c = o + 45 ∨ c = o + 47) I0 I' → post none (n, sh, Rf, I', L')) {k25 : Nat} (ho25 : ∀ {x1 : Int32} {I : Nat → Nat → Int32} {L : Nat → Nat → Int64}, RI R I → Fm (fun c => c = o + 45 ∨ c = o + 47) I0 I → ((0 : Int) ≤ x1.toInt ∧ x1.toInt ≤ 5) → (5 - x1.toInt).toNat < k25 → Ev (qGG D cA b E) mModel_smuggle 2 (0, 0) 25 [(0, .ref o), (1, .int x1)] [] (n, sh, Rf, I, L) post) : ∀ (k : Nat) {x1 : Int32} {x2 : Int32} {I : Nat → Nat → Int32} {L : Nat → Nat → Int64}, RI R I → Fm (fun c => c = o + 45 ∨ c = o + 47) I0 I → ((0 : Int) ≤ x2.toInt ∧ x2.toInt ≤ 5) → ((0 : Int) ≤ x1.toInt ∧ x1.toInt ≤ 4) → ((5 - x1.toInt).toNat < k25 + 1) → (5 - x2.toInt).toNat < k → Ev (qGG D cA b E) mModel_smuggle 2 (0, 0) 37 [(0, .ref o), (1, .int x1), (2, .int x2)] [] (n, sh, Rf, I, L) post := by
  intro k
  induction k with
  | zero =>
    intro x1 x2 I L hR hf hi0 hi1 hi2 hm
    exact absurd hm (Nat.not_lt_zero _)
  | succ k ih =>
    intro x1 x2 I L hR hf hi0 hi1 hi2 hm
    refine sModel_smuggle_37 o n sh Rf I L post x1 x2 hok hw ?_
    unfold fModel_smuggle_37
    refine y_Model_towns hok hw ra hR (fun r_1 u_2 => ⟨r_1, I, L, rfl, rfl, ?_⟩)
    refine ⟨fun c_3 => ?_, fun c_3 => ?_⟩
    · have d_4 := iLe c_3
      have a_6 : (x1 + Int32.ofInt 1).toInt = x1.toInt + (1) := tIc (by omega) (by omega) (by decide) (by decide)
      generalize ez_5 : (x1 + Int32.ofInt 1) = z_5 at a_6 ⊢
      exact ho25 hR hf (by first | omega | (intro h; omega) | exact Or.inl rfl | exact Or.inr rfl) (by omega)
    · have d_7 := iNle c_3
      refine y_Model_townAt hok hw ra (by first | omega | (intro h; omega) | exact Or.inl rfl | exact Or.inr rfl) hR (fun r_8 u_9 => ⟨r_8, I, L, rfl, rfl, ?_⟩)
      have l_10 : (16 : Int32).toInt = 16 := rfl
      have a_11 : (16 * r_8).toInt = 16 * r_8.toInt := tMulL rfl (by omega) (by omega)
      refine y_Model_townAt hok hw ra (by first | omega | (intro h; omega) | exact Or.inl rfl | exact Or.inr rfl) hR (fun r_12 u_13 => ⟨r_12, I, L, rfl, rfl, ?_⟩)
      have a_14 : ((16 * r_8) + r_12).toInt = (16 * r_8).toInt + r_12.toInt := tAdd (by omega) (by omega)
      refine ⟨tIn (by omega) (by omega), ?_⟩
      have g_15 : (0 : Int) ≤ (I o 34).toInt ∧ (I o 34).toInt ≤ 1 := hR.at0 ra 34 (by decide)
      have l_16 : (5 : Int32).toInt = 5 := rfl
      have a_17 : (5 * (I o 34)).toInt = 5 * (I o 34).toInt := tMulL rfl (by omega) (by omega)
      have a_18 : ((5 * (I o 34)) + x1).toInt = (5 * (I o 34)).toInt + x1.toInt := tAdd (by omega) (by omega)
      refine ⟨tIn (by omega) (by omega), ?_⟩
      have g_19 : (0 : Int) ≤ (I o 34).toInt ∧ (I o 34).toInt ≤ 1 := hR.at0 ra 34 (by decide)
      have a_20 : (5 * (I o 34)).toInt = 5 * (I o 34).toInt := tMulL rfl (by omega) (by omega)
      have a_21 : ((5 * (I o 34)) + x2).toInt = (5 * (I o 34)).toInt + x2.toInt := tAdd (by omega) (by omega)
      refine ⟨tIn (by omega) (by omega), ?_⟩
      refine ⟨fun c_22 => ?_, fun c_22 => ?_⟩
      · have d_23 := iEq c_22
        unfold fModel_smuggle_142
        have a_25 : (x2 + Int32.ofInt 1).toInt = x2.toInt + (1) := tIc (by omega) (by omega) (by decide) (by decide)
        generalize ez_24 : (x2 + Int32.ofInt 1) = z_24 at a_25 ⊢
        exact ih hR hf (by first | omega | (intro h; omega) | exact Or.inl rfl | exact Or.inr rfl) (by first | omega | (intro h; omega) | exact Or.inl rfl | exact Or.inr rfl) (by first | omega | (intro h; omega) | exact Or.inl rfl | exact Or.inr rfl) (by omega)
      · have d_26 := iNe c_22
        have l_27 : (1000000 : Int32).toInt = 1000000 := rfl
        refine ⟨fun c_28 => ?_, fun c_28 => ?_⟩
        · have d_29 := iLt c_28
          refine y_Model_priceOf hok hw ra (by first | omega | (intro h; omega) | exact Or.inl rfl | exact Or.inr rfl) hR (fun r_30  => ⟨r_30, I, L, rfl, rfl, ?_⟩)
          refine y_Model_priceOf hok hw ra (by first | omega | (intro h; omega) | exact Or.inl rfl | exact Or.inr rfl) hR (fun r_31  => ⟨r_31, I, L, rfl, rfl, ?_⟩)
          refine ⟨fun c_32 => ?_, fun c_32 => ?_⟩
          · have d_33 := iLe c_32
            unfold fModel_smuggle_129
            refine ⟨fun c_34 => ?_, fun c_34 => ?_⟩
            · have d_35 := iLe c_34
              unfold fModel_smuggle_142
              have a_37 : (x2 + Int32.ofInt 1).toInt = x2.toInt + (1) := tIc (by omega) (by omega) (by decide) (by decide)
              generalize ez_36 : (x2 + Int32.ofInt 1) = z_36 at a_37 ⊢
              exact ih hR hf (by first | omega | (intro h; omega) | exact Or.inl rfl | exact Or.inr rfl) (by first | omega | (intro h; omega) | exact Or.inl rfl | exact Or.inr rfl) (by first | omega | (intro h; omega) | exact Or.inl rfl | exact Or.inr rfl) (by omega)
            · have d_38 := iNle c_34
              refine y_Model_cross hok hw ra (by first | omega | (intro h; omega) | exact Or.inl rfl | exact Or.inr rfl) (by first | omega | (intro h; omega) | exact Or.inl rfl | exact Or.inr rfl) hR (fun I_40 L_41 hR_42 fr_43 kp_44  => ⟨I_40, L_41, rfl, rfl, ?_⟩)
              have hf_45 : Fm (fun c => c = o + 45 ∨ c = o + 47) I0 I_40 := hf.call fr_43 (fun c hc => by first | exact hc | (dsimp only at hc ⊢; omega) | omega)
              have t_46 : (I_40 o 34).toInt = (I o 34).toInt := by rw [kp_44 34 rfl]
              unfold fModel_smuggle_142
              have a_48 : (x2 + Int32.ofInt 1).toInt = x2.toInt + (1) := tIc (by omega) (by omega) (by decide) (by decide)
              generalize ez_47 : (x2 + Int32.ofInt 1) = z_47 at a_48 ⊢
              exact ih hR_42 hf_45 (by first | omega | (intro h; omega) | exact Or.inl rfl | exact Or.inr rfl) (by first | omega | (intro h; omega) | exact Or.inl rfl | exact Or.inr rfl) (by first | omega | (intro h; omega) | exact Or.inl rfl | exact Or.inr rfl) (by omega)
          · have d_49 := iNle c_32
            refine y_Model_cross hok hw ra (by first | omega | (intro h; omega) | exact Or.inl rfl | exact Or.inr rfl) (by first | omega | (intro h; omega) | exact Or.inl rfl | exact Or.inr rfl) hR (fun I_51 L_52 hR_53 fr_54 kp_55  => ⟨I_51, L_52, rfl, rfl, ?_⟩)
            have hf_56 : Fm (fun c => c = o + 45 ∨ c = o + 47) I0 I_51 := hf.call fr_54 (fun c hc => by first | exact hc | (dsimp only at hc ⊢; omega) | omega)
            have t_57 : (I_51 o 34).toInt = (I o 34).toInt := by rw [kp_55 34 rfl]
            unfold fModel_smuggle_129
            refine ⟨fun c_58 => ?_, fun c_58 => ?_⟩
            · have d_59 := iLe c_58
              unfold fModel_smuggle_142
              have a_61 : (x2 + Int32.ofInt 1).toInt = x2.toInt + (1) := tIc (by omega) (by omega) (by decide) (by decide)
              generalize ez_60 : (x2 + Int32.ofInt 1) = z_60 at a_61 ⊢
              exact ih hR_53 hf_56 (by first | omega | (intro h; omega) | exact Or.inl rfl | exact Or.inr rfl) (by first | omega | (intro h; omega) | exact Or.inl rfl | exact Or.inr rfl) (by first | omega | (intro h; omega) | exact Or.inl rfl | exact Or.inr rfl) (by omega)
            · have d_62 := iNle c_58
              refine y_Model_cross hok hw ra (by first | omega | (intro h; omega) | exact Or.inl rfl | exact Or.inr rfl) (by first | omega | (intro h; omega) | exact Or.inl rfl | exact Or.inr rfl) hR_53 (fun I_64 L_65 hR_66 fr_67 kp_68  => ⟨I_64, L_65, rfl, rfl, ?_⟩)
              have hf_69 : Fm (fun c => c = o + 45 ∨ c = o + 47) I0 I_64 := hf_56.call fr_67 (fun c hc => by first | exact hc | (dsimp only at hc ⊢; omega) | omega)
              have t_70 : (I_64 o 34).toInt = (I_51 o 34).toInt := by rw [kp_68 34 rfl]
              unfold fModel_smuggle_142
              have a_72 : (x2 + Int32.ofInt 1).toInt = x2.toInt + (1) := tIc (by omega) (by omega) (by decide) (by decide)
              generalize ez_71 : (x2 + Int32.ofInt 1) = z_71 at a_72 ⊢
              exact ih hR_66 hf_69 (by first | omega | (intro h; omega) | exact Or.inl rfl | exact Or.inr rfl) (by first | omega | (intro h; omega) | exact Or.inl rfl | exact Or.inr rfl) (by first | omega | (intro h; omega) | exact Or.inl rfl | exact Or.inr rfl) (by omega)
        · have d_73 := iNlt c_28
          unfold fModel_smuggle_142
          have a_75 : (x2 + Int32.ofInt 1).toInt = x2.toInt + (1) := tIc (by omega) (by omega) (by decide) (by decide)
          generalize ez_74 : (x2 + Int32.ofInt 1) = z_74 at a_75 ⊢
          exact ih hR hf (by first | omega | (intro h; omega) | exact Or.inl rfl | exact Or.inr rfl) (by first | omega | (intro h; omega) | exact Or.inl rfl | exact Or.inr rfl) (by first | omega | (intro h; omega) | exact Or.inl rfl | exact Or.inr rfl) (by omega)
set_option maxHeartbeats 4000000 in
set_option maxRecDepth 20000 in
theorem yModel_smuggle_25 {D : va_G} {cA : FieldType → ClassId} {b : Nat} {E : State → Prop} {R : qRg} {o n : Nat} {sh : Nat → qC} {Rf : Nat → Nat → Option Nat} {I0 : Nat → Nat → Int32} {L0 : Nat → Nat → Int64} {post : Option Value → qS → Prop} (hok : q_ok (qGG D cA b E)) (hw : WfModel (qGG D cA b E) n sh Rf o) (ra : RAModel R o) (hZ : Fz R I0 o wModel_smuggle) (hR0 : RI R I0) (hp : ∀ (I' : Nat → Nat → Int32) (L' : Nat → Nat → Int64), RI R I' → Fm (fun c => c = o + 45 ∨ c = o + 47) I0 I' → post none (n, sh, Rf, I', L')) : ∀ (k : Nat) {x1 : Int32} {I : Nat → Nat → Int32} {L : Nat → Nat → Int64}, RI R I → Fm (fun c => c = o + 45 ∨ c = o + 47) I0 I → ((0 : Int) ≤ x1.toInt ∧ x1.toInt ≤ 5) → (5 - x1.toInt).toNat < k → Ev (qGG D cA b E) mModel_smuggle 2 (0, 0) 25 [(0, .ref o), (1, .int x1)] [] (n, sh, Rf, I, L) post := by
  intro k
  induction k with
  | zero =>
    intro x1 I L hR hf hi0 hm
    exact absurd hm (Nat.not_lt_zero _)
  | succ k ih =>
    intro x1 I L hR hf hi0 hm
    refine sModel_smuggle_25 o n sh Rf I L post x1 hok hw ?_
    unfold fModel_smuggle_25
    refine y_Model_towns hok hw ra hR (fun r_76 u_77 => ⟨r_76, I, L, rfl, rfl, ?_⟩)
    refine ⟨fun c_78 => ?_, fun c_78 => ?_⟩
    · have d_79 := iLe c_78
      exact (hp _ _ hR hf )
    · have d_80 := iNle c_78
      have l_81 : (1 : Int32).toInt = 1 := rfl
      have a_82 : (x1 + 1).toInt = x1.toInt + (1 : Int32).toInt := tAdd (by omega) (by omega)
      exact yModel_smuggle_37 (I0 := I0) (L0 := L0) hok hw ra hZ hR0 hp ih _ hR hf (by first | omega | (intro h; omega) | exact Or.inl rfl | exact Or.inr rfl) (by first | omega | (intro h; omega) | exact Or.inl rfl | exact Or.inr rfl) (by first | omega | (intro h; omega) | exact Or.inl rfl | exact Or.inr rfl) (Nat.lt_succ_self _)
set_option maxHeartbeats 4000000 in
set_option maxRecDepth 20000 in
theorem yModel_smuggle_2 {D : va_G} {cA : FieldType → ClassId} {b : Nat} {E : State → Prop} {R : qRg} {o n : Nat} {sh : Nat → qC} {Rf : Nat → Nat → Option Nat} {I0 : Nat → Nat → Int32} {L0 : Nat → Nat → Int64} {post : Option Value → qS → Prop} (hok : q_ok (qGG D cA b E)) (hw : WfModel (qGG D cA b E) n sh Rf o) (ra : RAModel R o) (hZ : Fz R I0 o wModel_smuggle) (hR0 : RI R I0) (hp : ∀ (I' : Nat → Nat → Int32) (L' : Nat → Nat → Int64), RI R I' → Fm (fun c => c = o + 45 ∨ c = o + 47) I0 I' → post none (n, sh, Rf, I', L')) : ∀ (k : Nat) {x1 : Int32} {I : Nat → Nat → Int32} {L : Nat → Nat → Int64}, RI R I → Fm (fun c => c = o + 45 ∨ c = o + 47) I0 I → ((0 : Int) ≤ x1.toInt ∧ x1.toInt ≤ 5) → (5 - x1.toInt).toNat < k → Ev (qGG D cA b E) mModel_smuggle 2 (0, 0) 2 [(0, .ref o), (1, .int x1)] [] (n, sh, Rf, I, L) post := by
  intro k
  induction k with
  | zero =>
    intro x1 I L hR hf hi0 hm
    exact absurd hm (Nat.not_lt_zero _)
  | succ k ih =>
    intro x1 I L hR hf hi0 hm
    refine sModel_smuggle_2 o n sh Rf I L post x1 hok hw ?_
    unfold fModel_smuggle_2
    refine y_Model_towns hok hw ra hR (fun r_83 u_84 => ⟨r_83, I, L, rfl, rfl, ?_⟩)
    refine ⟨fun c_85 => ?_, fun c_85 => ?_⟩
    · have d_86 := iLe c_85
      have l_87 : (0 : Int32).toInt = 0 := rfl
      exact yModel_smuggle_25 (I0 := I0) (L0 := L0) hok hw ra hZ hR0 hp  _ hR hf (by first | omega | (intro h; omega) | exact Or.inl rfl | exact Or.inr rfl) (Nat.lt_succ_self _)
    · have d_88 := iNle c_85
      have l_89 : (0 : Int32).toInt = 0 := rfl
      refine ⟨tIn (by omega) (by omega), fun I_90 e_91 => ?_⟩
      have hR_92 : RI R I_90 := hR.up ra 47 (by decide) (Or.inl rfl) e_91 (i_lo _) (i_hi _)
      have hf_93 : Fm (fun c => c = o + 45 ∨ c = o + 47) I0 I_90 := hf.set (by first | rfl | omega | (dsimp only; omega)) e_91
      have a_95 : (x1 + Int32.ofInt 1).toInt = x1.toInt + (1) := tIc (by omega) (by omega) (by decide) (by decide)
      generalize ez_94 : (x1 + Int32.ofInt 1) = z_94 at a_95 ⊢
      exact ih hR_92 hf_93 (by first | omega | (intro h; omega) | exact Or.inl rfl | exact Or.inr rfl) (by omega)
set_option maxHeartbeats 4000000 in
set_option maxRecDepth 20000 in
theorem yc_Model_smuggle {D : va_G} {cA : FieldType → ClassId} {b : Nat} {E : State → Prop} {R : qRg} {o n : Nat} {sh : Nat → qC} {Rf : Nat → Nat → Option Nat} {I0 : Nat → Nat → Int32} {L0 : Nat → Nat → Int64} {post : Option Value → qS → Prop} (hok : q_ok (qGG D cA b E)) (hw : WfModel (qGG D cA b E) n sh Rf o) (ra : RAModel R o) (hZ : Fz R I0 o wModel_smuggle) (hR0 : RI R I0) (hR : RI R I0) (hp : ∀ (I' : Nat → Nat → Int32) (L' : Nat → Nat → Int64), RI R I' → Fm (fun c => c = o + 45 ∨ c = o + 47) I0 I' → post none (n, sh, Rf, I', L')) : Ev (qGG D cA b E) mModel_smuggle 2 (0, 0) 0 (lv_args 0 [.ref o]) [] (n, sh, Rf, I0, L0) post := by
  have hf : Fm (fun c => c = o + 45 ∨ c = o + 47) I0 I0 := Fm.rf
  refine sModel_smuggle_0 o n sh Rf I0 L0 post  hok hw ?_
  unfold fModel_smuggle_0
  have l_96 : (0 : Int32).toInt = 0 := rfl
  exact yModel_smuggle_2 (I0 := I0) (L0 := L0) hok hw ra hZ hR0 hp  _ hR hf (by first | omega | (intro h; omega) | exact Or.inl rfl | exact Or.inr rfl) (Nat.lt_succ_self _)
theorem y_Model_smuggle {D : va_G} {cA : FieldType → ClassId} {b : Nat} {E : State → Prop} {R : qRg} {o n : Nat} {sh : Nat → qC} {Rf : Nat → Nat → Option Nat} {I0 : Nat → Nat → Int32} {L0 : Nat → Nat → Int64} {post : Option Value → qS → Prop} (hok : q_ok (qGG D cA b E)) (hw : WfModel (qGG D cA b E) n sh Rf o) (ra : RAModel R o) (hR : RI R I0) (hp : ∀ (I' : Nat → Nat → Int32) (L' : Nat → Nat → Int64), RI R I' → Fm (fun c => c = o + 45 ∨ c = o + 47) I0 I' → Kp wModel_smuggle I0 I' o → post none (n, sh, Rf, I', L')) : Ev (qGG D cA b E) mModel_smuggle 2 (0, 0) 0 (lv_args 0 [.ref o]) [] (n, sh, Rf, I0, L0) post :=
  yc_Model_smuggle (R := fzR R I0 o wModel_smuggle) hok hw (fzA ra hR _) fzZ (fzI hR) (fzI hR) (fun I' L' h1 h2  => hp I' L' (fzB hR h1) h2 (fzP h1) )
def wModel_note : Nat → Bool := fun j => false
set_option maxHeartbeats 4000000 in
set_option maxRecDepth 20000 in
theorem yModel_note_210 {D : va_G} {cA : FieldType → ClassId} {b : Nat} {E : State → Prop} {R : qRg} {o n : Nat} {sh : Nat → qC} {Rf : Nat → Nat → Option Nat} {I0 : Nat → Nat → Int32} {L0 : Nat → Nat → Int64} {post : Option Value → qS → Prop} (hok : q_ok (qGG D cA b E)) (hw : WfModel (qGG D cA b E) n sh Rf o) (ra : RAModel R o) (hZ : Fz R I0 o wModel_note) (hR0 : RI R I0) (hq0 : (I0 o 57).toInt ≤ 239) (hp : ∀ (I' : Nat → Nat → Int32) (L' : Nat → Nat → Int64), RI R I' → Fm (fun c => (o + 71 ≤ c ∧ c < o + 75)) I0 I' → post none (n, sh, Rf, I', L')) : ∀ (k : Nat) {x1 : Int32} {I : Nat → Nat → Int32} {L : Nat → Nat → Int64}, RI R I → Fm (fun c => (o + 71 ≤ c ∧ c < o + 75)) I0 I → ((0 : Int) ≤ x1.toInt ∧ x1.toInt ≤ 6) → ((I o 57).toInt ≤ 239) → (6 - x1.toInt).toNat < k → Ev (qGG D cA b E) mModel_note 2 (0, 0) 210 [(0, .ref o), (1, .int x1)] [] (n, sh, Rf, I, L) post := by
  intro k
  induction k with
  | zero =>
    intro x1 I L hR hf hi0 hi1 hm
    exact absurd hm (Nat.not_lt_zero _)
  | succ k ih =>
    intro x1 I L hR hf hi0 hi1 hm
    have g_1 : (0 : Int) ≤ (I o 57).toInt ∧ (I o 57).toInt ≤ 240 := hR.at0 ra 57 (by decide)
    have z_2 : (I o 57).toInt = (I0 o 57).toInt := by rw [hZ I 57 rfl hR]
    refine sModel_note_210 o n sh Rf I L post x1 hok hw ?_
    unfold fModel_note_210
    have g_3 : (0 : Int) ≤ (I o 66).toInt ∧ (I o 66).toInt ≤ 6 := hR.at0 ra 66 (by decide)
    refine ⟨fun c_4 => ?_, fun c_4 => ?_⟩
    · have d_5 := iLe c_4
      exact (hp _ _ hR hf )
    · have d_6 := iNle c_4
      have g_7 : (0 : Int) ≤ (I o 57).toInt ∧ (I o 57).toInt ≤ 240 := hR.at0 ra 57 (by decide)
      have l_8 : (6 : Int32).toInt = 6 := rfl
      have a_9 : (6 * (I o 57)).toInt = 6 * (I o 57).toInt := tMulL rfl (by omega) (by omega)
      have a_10 : ((6 * (I o 57)) + x1).toInt = (6 * (I o 57)).toInt + x1.toInt := tAdd (by omega) (by omega)
      refine ⟨tIn (by omega) (by omega), ?_⟩
      refine ⟨tIn (by omega) (by omega), fun L_11 e_12 => ?_⟩
      have g_13 : (0 : Int) ≤ (I o 57).toInt ∧ (I o 57).toInt ≤ 240 := hR.at0 ra 57 (by decide)
      have a_14 : (6 * (I o 57)).toInt = 6 * (I o 57).toInt := tMulL rfl (by omega) (by omega)
      have a_15 : ((6 * (I o 57)) + x1).toInt = (6 * (I o 57)).toInt + x1.toInt := tAdd (by omega) (by omega)
      refine ⟨tIn (by omega) (by omega), ?_⟩
      refine ⟨tIn (by omega) (by omega), fun I_16 e_17 => ?_⟩
      have hR_18 : RI R I_16 := hR.up ra 74 (by decide) (Or.inl rfl) e_17 (i_lo _) (i_hi _)
      have hf_19 : Fm (fun c => (o + 71 ≤ c ∧ c < o + 75)) I0 I_16 := hf.set (by first | rfl | omega | (dsimp only; omega)) e_17
      have t_20 : (I_16 o 57).toInt = (I o 57).toInt := by rw [← e_17, q_u_ne (by omega)]
      have t_21 : (I_16 o 66).toInt = (I o 66).toInt := by rw [← e_17, q_u_ne (by omega)]
      have g_22 : (0 : Int) ≤ (I_16 o 57).toInt ∧ (I_16 o 57).toInt ≤ 240 := hR_18.at0 ra 57 (by decide)
      have a_23 : (6 * (I_16 o 57)).toInt = 6 * (I_16 o 57).toInt := tMulL rfl (by omega) (by omega)
      have a_24 : ((6 * (I_16 o 57)) + x1).toInt = (6 * (I_16 o 57)).toInt + x1.toInt := tAdd (by omega) (by omega)
      refine ⟨tIn (by omega) (by omega), ?_⟩
      refine ⟨tIn (by omega) (by omega), fun L_25 e_26 => ?_⟩
      have a_28 : (x1 + Int32.ofInt 1).toInt = x1.toInt + (1) := tIc (by omega) (by omega) (by decide) (by decide)
      generalize ez_27 : (x1 + Int32.ofInt 1) = z_27 at a_28 ⊢
      exact ih hR_18 hf_19 (by first | omega | (intro h; omega) | exact Or.inl rfl | exact Or.inr rfl) (by first | omega | (intro h; omega) | exact Or.inl rfl | exact Or.inr rfl) (by omega)
set_option maxHeartbeats 4000000 in
set_option maxRecDepth 20000 in
theorem yModel_note_125 {D : va_G} {cA : FieldType → ClassId} {b : Nat} {E : State → Prop} {R : qRg} {o n : Nat} {sh : Nat → qC} {Rf : Nat → Nat → Option Nat} {I0 : Nat → Nat → Int32} {L0 : Nat → Nat → Int64} {post : Option Value → qS → Prop} (hok : q_ok (qGG D cA b E)) (hw : WfModel (qGG D cA b E) n sh Rf o) (ra : RAModel R o) (hZ : Fz R I0 o wModel_note) (hR0 : RI R I0) (hq0 : (I0 o 57).toInt ≤ 239) (hp : ∀ (I' : Nat → Nat → Int32) (L' : Nat → Nat → Int64), RI R I' → Fm (fun c => (o + 71 ≤ c ∧ c < o + 75)) I0 I' → post none (n, sh, Rf, I', L')) : ∀ (k : Nat) {x1 : Int32} {I : Nat → Nat → Int32} {L : Nat → Nat → Int64}, RI R I → Fm (fun c => (o + 71 ≤ c ∧ c < o + 75)) I0 I → ((0 : Int) ≤ x1.toInt ∧ x1.toInt ≤ 5) → ((I o 57).toInt ≤ 239) → (5 - x1.toInt).toNat < k → Ev (qGG D cA b E) mModel_note 2 (0, 0) 125 [(0, .ref o), (1, .int x1)] [] (n, sh, Rf, I, L) post := by
  intro k
  induction k with
  | zero =>
    intro x1 I L hR hf hi0 hi1 hm
    exact absurd hm (Nat.not_lt_zero _)
  | succ k ih =>
    intro x1 I L hR hf hi0 hi1 hm
    have g_29 : (0 : Int) ≤ (I o 57).toInt ∧ (I o 57).toInt ≤ 240 := hR.at0 ra 57 (by decide)
    have z_30 : (I o 57).toInt = (I0 o 57).toInt := by rw [hZ I 57 rfl hR]
    refine sModel_note_125 o n sh Rf I L post x1 hok hw ?_
    unfold fModel_note_125
    refine y_Model_towns hok hw ra hR (fun r_31 u_32 => ⟨r_31, I, L, rfl, rfl, ?_⟩)
    refine ⟨fun c_33 => ?_, fun c_33 => ?_⟩
    · have d_34 := iLe c_33
      have l_35 : (0 : Int32).toInt = 0 := rfl
      exact yModel_note_210 (I0 := I0) (L0 := L0) hok hw ra hZ hR0 hq0 hp  _ hR hf (by first | omega | (intro h; omega) | exact Or.inl rfl | exact Or.inr rfl) (by first | omega | (intro h; omega) | exact Or.inl rfl | exact Or.inr rfl) (Nat.lt_succ_self _)
    · have d_36 := iNle c_33
      have g_37 : (0 : Int) ≤ (I o 57).toInt ∧ (I o 57).toInt ≤ 240 := hR.at0 ra 57 (by decide)
      have l_38 : (15 : Int32).toInt = 15 := rfl
      have a_39 : (15 * (I o 57)).toInt = 15 * (I o 57).toInt := tMulL rfl (by omega) (by omega)
      have l_40 : (3 : Int32).toInt = 3 := rfl
      have a_41 : (3 * x1).toInt = 3 * x1.toInt := tMulL rfl (by omega) (by omega)
      have a_42 : ((15 * (I o 57)) + (3 * x1)).toInt = (15 * (I o 57)).toInt + (3 * x1).toInt := tAdd (by omega) (by omega)
      refine ⟨tIn (by omega) (by omega), ?_⟩
      refine ⟨tIn (by omega) (by omega), fun I_43 e_44 => ?_⟩
      have hR_45 : RI R I_43 := hR.up ra 73 (by decide) (Or.inl rfl) e_44 (i_lo _) (i_hi _)
      have hf_46 : Fm (fun c => (o + 71 ≤ c ∧ c < o + 75)) I0 I_43 := hf.set (by first | rfl | omega | (dsimp only; omega)) e_44
      have t_47 : (I_43 o 57).toInt = (I o 57).toInt := by rw [← e_44, q_u_ne (by omega)]
      have g_48 : (0 : Int) ≤ (I_43 o 57).toInt ∧ (I_43 o 57).toInt ≤ 240 := hR_45.at0 ra 57 (by decide)
      have a_49 : (15 * (I_43 o 57)).toInt = 15 * (I_43 o 57).toInt := tMulL rfl (by omega) (by omega)
      have a_50 : (3 * x1).toInt = 3 * x1.toInt := tMulL rfl (by omega) (by omega)
      have a_51 : ((15 * (I_43 o 57)) + (3 * x1)).toInt = (15 * (I_43 o 57)).toInt + (3 * x1).toInt := tAdd (by omega) (by omega)
      have l_52 : (1 : Int32).toInt = 1 := rfl
      have a_53 : (((15 * (I_43 o 57)) + (3 * x1)) + 1).toInt = ((15 * (I_43 o 57)) + (3 * x1)).toInt + (1 : Int32).toInt := tAdd (by omega) (by omega)
      refine y_Model_priceOf hok hw ra (by first | omega | (intro h; omega) | exact Or.inl rfl | exact Or.inr rfl) hR_45 (fun r_54  => ⟨r_54, I_43, L, rfl, rfl, ?_⟩)
      refine ⟨tIn (by omega) (by omega), fun I_55 e_56 => ?_⟩
      have hR_57 : RI R I_55 := hR_45.up ra 73 (by decide) (Or.inl rfl) e_56 (i_lo _) (i_hi _)
      have hf_58 : Fm (fun c => (o + 71 ≤ c ∧ c < o + 75)) I0 I_55 := hf_46.set (by first | rfl | omega | (dsimp only; omega)) e_56
      have t_59 : (I_55 o 57).toInt = (I_43 o 57).toInt := by rw [← e_56, q_u_ne (by omega)]
      have g_60 : (0 : Int) ≤ (I_55 o 57).toInt ∧ (I_55 o 57).toInt ≤ 240 := hR_57.at0 ra 57 (by decide)
      have a_61 : (15 * (I_55 o 57)).toInt = 15 * (I_55 o 57).toInt := tMulL rfl (by omega) (by omega)
      have a_62 : (3 * x1).toInt = 3 * x1.toInt := tMulL rfl (by omega) (by omega)
      have a_63 : ((15 * (I_55 o 57)) + (3 * x1)).toInt = (15 * (I_55 o 57)).toInt + (3 * x1).toInt := tAdd (by omega) (by omega)
      have l_64 : (2 : Int32).toInt = 2 := rfl
      have a_65 : (((15 * (I_55 o 57)) + (3 * x1)) + 2).toInt = ((15 * (I_55 o 57)) + (3 * x1)).toInt + (2 : Int32).toInt := tAdd (by omega) (by omega)
      refine ⟨tIn (by omega) (by omega), ?_⟩
      refine ⟨tIn (by omega) (by omega), fun I_66 e_67 => ?_⟩
      have hR_68 : RI R I_66 := hR_57.up ra 73 (by decide) (Or.inl rfl) e_67 (i_lo _) (i_hi _)
      have hf_69 : Fm (fun c => (o + 71 ≤ c ∧ c < o + 75)) I0 I_66 := hf_58.set (by first | rfl | omega | (dsimp only; omega)) e_67
      have t_70 : (I_66 o 57).toInt = (I_55 o 57).toInt := by rw [← e_67, q_u_ne (by omega)]
      have a_72 : (x1 + Int32.ofInt 1).toInt = x1.toInt + (1) := tIc (by omega) (by omega) (by decide) (by decide)
      generalize ez_71 : (x1 + Int32.ofInt 1) = z_71 at a_72 ⊢
      exact ih hR_68 hf_69 (by first | omega | (intro h; omega) | exact Or.inl rfl | exact Or.inr rfl) (by first | omega | (intro h; omega) | exact Or.inl rfl | exact Or.inr rfl) (by omega)
set_option maxHeartbeats 4000000 in
set_option maxRecDepth 20000 in
theorem yModel_note_64 {D : va_G} {cA : FieldType → ClassId} {b : Nat} {E : State → Prop} {R : qRg} {o n : Nat} {sh : Nat → qC} {Rf : Nat → Nat → Option Nat} {I0 : Nat → Nat → Int32} {L0 : Nat → Nat → Int64} {post : Option Value → qS → Prop} (hok : q_ok (qGG D cA b E)) (hw : WfModel (qGG D cA b E) n sh Rf o) (ra : RAModel R o) (hZ : Fz R I0 o wModel_note) (hR0 : RI R I0) (hq0 : (I0 o 57).toInt ≤ 239) (hp : ∀ (I' : Nat → Nat → Int32) (L' : Nat → Nat → Int64), RI R I' → Fm (fun c => (o + 71 ≤ c ∧ c < o + 75)) I0 I' → post none (n, sh, Rf, I', L')) : ∀ (k : Nat) {x1 : Int32} {I : Nat → Nat → Int32} {L : Nat → Nat → Int64}, RI R I → Fm (fun c => (o + 71 ≤ c ∧ c < o + 75)) I0 I → ((0 : Int) ≤ x1.toInt ∧ x1.toInt ≤ 3) → ((I o 57).toInt ≤ 239) → (3 - x1.toInt).toNat < k → Ev (qGG D cA b E) mModel_note 2 (0, 0) 64 [(0, .ref o), (1, .int x1)] [] (n, sh, Rf, I, L) post := by
  intro k
  induction k with
  | zero =>
    intro x1 I L hR hf hi0 hi1 hm
    exact absurd hm (Nat.not_lt_zero _)
  | succ k ih =>
    intro x1 I L hR hf hi0 hi1 hm
    have g_73 : (0 : Int) ≤ (I o 57).toInt ∧ (I o 57).toInt ≤ 240 := hR.at0 ra 57 (by decide)
    have z_74 : (I o 57).toInt = (I0 o 57).toInt := by rw [hZ I 57 rfl hR]
    refine sModel_note_64 o n sh Rf I L post x1 hok hw ?_
    unfold fModel_note_64
    refine y_Model_pans hok hw ra hR (fun r_75 u_76 => ⟨r_75, I, L, rfl, rfl, ?_⟩)
    refine ⟨fun c_77 => ?_, fun c_77 => ?_⟩
    · have d_78 := iLe c_77
      have l_79 : (0 : Int32).toInt = 0 := rfl
      exact yModel_note_125 (I0 := I0) (L0 := L0) hok hw ra hZ hR0 hq0 hp  _ hR hf (by first | omega | (intro h; omega) | exact Or.inl rfl | exact Or.inr rfl) (by first | omega | (intro h; omega) | exact Or.inl rfl | exact Or.inr rfl) (Nat.lt_succ_self _)
    · have d_80 := iNle c_77
      have g_81 : (0 : Int) ≤ (I o 57).toInt ∧ (I o 57).toInt ≤ 240 := hR.at0 ra 57 (by decide)
      have l_82 : (6 : Int32).toInt = 6 := rfl
      have a_83 : (6 * (I o 57)).toInt = 6 * (I o 57).toInt := tMulL rfl (by omega) (by omega)
      have l_84 : (2 : Int32).toInt = 2 := rfl
      have a_85 : (2 * x1).toInt = 2 * x1.toInt := tMulL rfl (by omega) (by omega)
      have a_86 : ((6 * (I o 57)) + (2 * x1)).toInt = (6 * (I o 57)).toInt + (2 * x1).toInt := tAdd (by omega) (by omega)
      refine ⟨tIn (by omega) (by omega), ?_⟩
      refine ⟨tIn (by omega) (by omega), fun I_87 e_88 => ?_⟩
      have hR_89 : RI R I_87 := hR.up ra 72 (by decide) (Or.inl rfl) e_88 (i_lo _) (i_hi _)
      have hf_90 : Fm (fun c => (o + 71 ≤ c ∧ c < o + 75)) I0 I_87 := hf.set (by first | rfl | omega | (dsimp only; omega)) e_88
      have t_91 : (I_87 o 57).toInt = (I o 57).toInt := by rw [← e_88, q_u_ne (by omega)]
      have g_92 : (0 : Int) ≤ (I_87 o 57).toInt ∧ (I_87 o 57).toInt ≤ 240 := hR_89.at0 ra 57 (by decide)
      have a_93 : (6 * (I_87 o 57)).toInt = 6 * (I_87 o 57).toInt := tMulL rfl (by omega) (by omega)
      have a_94 : (2 * x1).toInt = 2 * x1.toInt := tMulL rfl (by omega) (by omega)
      have a_95 : ((6 * (I_87 o 57)) + (2 * x1)).toInt = (6 * (I_87 o 57)).toInt + (2 * x1).toInt := tAdd (by omega) (by omega)
      have l_96 : (1 : Int32).toInt = 1 := rfl
      have a_97 : (((6 * (I_87 o 57)) + (2 * x1)) + 1).toInt = ((6 * (I_87 o 57)) + (2 * x1)).toInt + (1 : Int32).toInt := tAdd (by omega) (by omega)
      refine y_Model_waitingAt hok hw ra hR_89 (fun r_98  => ⟨r_98, I_87, L, rfl, rfl, ?_⟩)
      refine ⟨tIn (by omega) (by omega), fun I_99 e_100 => ?_⟩
      have hR_101 : RI R I_99 := hR_89.up ra 72 (by decide) (Or.inl rfl) e_100 (i_lo _) (i_hi _)
      have hf_102 : Fm (fun c => (o + 71 ≤ c ∧ c < o + 75)) I0 I_99 := hf_90.set (by first | rfl | omega | (dsimp only; omega)) e_100
      have t_103 : (I_99 o 57).toInt = (I_87 o 57).toInt := by rw [← e_100, q_u_ne (by omega)]
      have a_105 : (x1 + Int32.ofInt 1).toInt = x1.toInt + (1) := tIc (by omega) (by omega) (by decide) (by decide)
      generalize ez_104 : (x1 + Int32.ofInt 1) = z_104 at a_105 ⊢
      exact ih hR_101 hf_102 (by first | omega | (intro h; omega) | exact Or.inl rfl | exact Or.inr rfl) (by first | omega | (intro h; omega) | exact Or.inl rfl | exact Or.inr rfl) (by omega)
set_option maxHeartbeats 4000000 in
set_option maxRecDepth 20000 in
theorem yModel_note_2 {D : va_G} {cA : FieldType → ClassId} {b : Nat} {E : State → Prop} {R : qRg} {o n : Nat} {sh : Nat → qC} {Rf : Nat → Nat → Option Nat} {I0 : Nat → Nat → Int32} {L0 : Nat → Nat → Int64} {post : Option Value → qS → Prop} (hok : q_ok (qGG D cA b E)) (hw : WfModel (qGG D cA b E) n sh Rf o) (ra : RAModel R o) (hZ : Fz R I0 o wModel_note) (hR0 : RI R I0) (hq0 : (I0 o 57).toInt ≤ 239) (hp : ∀ (I' : Nat → Nat → Int32) (L' : Nat → Nat → Int64), RI R I' → Fm (fun c => (o + 71 ≤ c ∧ c < o + 75)) I0 I' → post none (n, sh, Rf, I', L')) : ∀ (k : Nat) {x1 : Int32} {I : Nat → Nat → Int32} {L : Nat → Nat → Int64}, RI R I → Fm (fun c => (o + 71 ≤ c ∧ c < o + 75)) I0 I → ((0 : Int) ≤ x1.toInt ∧ x1.toInt ≤ 3) → ((I o 57).toInt ≤ 239) → (3 - x1.toInt).toNat < k → Ev (qGG D cA b E) mModel_note 2 (0, 0) 2 [(0, .ref o), (1, .int x1)] [] (n, sh, Rf, I, L) post := by
  intro k
  induction k with
  | zero =>
    intro x1 I L hR hf hi0 hi1 hm
    exact absurd hm (Nat.not_lt_zero _)
  | succ k ih =>
    intro x1 I L hR hf hi0 hi1 hm
    have g_106 : (0 : Int) ≤ (I o 57).toInt ∧ (I o 57).toInt ≤ 240 := hR.at0 ra 57 (by decide)
    have z_107 : (I o 57).toInt = (I0 o 57).toInt := by rw [hZ I 57 rfl hR]
    refine sModel_note_2 o n sh Rf I L post x1 hok hw ?_
    unfold fModel_note_2
    refine y_Model_forts hok hw ra hR (fun r_108 u_109 => ⟨r_108, I, L, rfl, rfl, ?_⟩)
    refine ⟨fun c_110 => ?_, fun c_110 => ?_⟩
    · have d_111 := iLe c_110
      have l_112 : (0 : Int32).toInt = 0 := rfl
      exact yModel_note_64 (I0 := I0) (L0 := L0) hok hw ra hZ hR0 hq0 hp  _ hR hf (by first | omega | (intro h; omega) | exact Or.inl rfl | exact Or.inr rfl) (by first | omega | (intro h; omega) | exact Or.inl rfl | exact Or.inr rfl) (Nat.lt_succ_self _)
    · have d_113 := iNle c_110
      have g_114 : (0 : Int) ≤ (I o 57).toInt ∧ (I o 57).toInt ≤ 240 := hR.at0 ra 57 (by decide)
      have l_115 : (6 : Int32).toInt = 6 := rfl
      have a_116 : (6 * (I o 57)).toInt = 6 * (I o 57).toInt := tMulL rfl (by omega) (by omega)
      have l_117 : (2 : Int32).toInt = 2 := rfl
      have a_118 : (2 * x1).toInt = 2 * x1.toInt := tMulL rfl (by omega) (by omega)
      have a_119 : ((6 * (I o 57)) + (2 * x1)).toInt = (6 * (I o 57)).toInt + (2 * x1).toInt := tAdd (by omega) (by omega)
      refine ⟨tIn (by omega) (by omega), ?_⟩
      refine ⟨tIn (by omega) (by omega), fun I_120 e_121 => ?_⟩
      have hR_122 : RI R I_120 := hR.up ra 71 (by decide) (Or.inl rfl) e_121 (i_lo _) (i_hi _)
      have hf_123 : Fm (fun c => (o + 71 ≤ c ∧ c < o + 75)) I0 I_120 := hf.set (by first | rfl | omega | (dsimp only; omega)) e_121
      have t_124 : (I_120 o 57).toInt = (I o 57).toInt := by rw [← e_121, q_u_ne (by omega)]
      have g_125 : (0 : Int) ≤ (I_120 o 57).toInt ∧ (I_120 o 57).toInt ≤ 240 := hR_122.at0 ra 57 (by decide)
      have a_126 : (6 * (I_120 o 57)).toInt = 6 * (I_120 o 57).toInt := tMulL rfl (by omega) (by omega)
      have a_127 : (2 * x1).toInt = 2 * x1.toInt := tMulL rfl (by omega) (by omega)
      have a_128 : ((6 * (I_120 o 57)) + (2 * x1)).toInt = (6 * (I_120 o 57)).toInt + (2 * x1).toInt := tAdd (by omega) (by omega)
      have l_129 : (1 : Int32).toInt = 1 := rfl
      have a_130 : (((6 * (I_120 o 57)) + (2 * x1)) + 1).toInt = ((6 * (I_120 o 57)) + (2 * x1)).toInt + (1 : Int32).toInt := tAdd (by omega) (by omega)
      refine ⟨tIn (by omega) (by omega), ?_⟩
      refine ⟨tIn (by omega) (by omega), fun I_131 e_132 => ?_⟩
      have hR_133 : RI R I_131 := hR_122.up ra 71 (by decide) (Or.inl rfl) e_132 (i_lo _) (i_hi _)
      have hf_134 : Fm (fun c => (o + 71 ≤ c ∧ c < o + 75)) I0 I_131 := hf_123.set (by first | rfl | omega | (dsimp only; omega)) e_132
      have t_135 : (I_131 o 57).toInt = (I_120 o 57).toInt := by rw [← e_132, q_u_ne (by omega)]
      have a_137 : (x1 + Int32.ofInt 1).toInt = x1.toInt + (1) := tIc (by omega) (by omega) (by decide) (by decide)
      generalize ez_136 : (x1 + Int32.ofInt 1) = z_136 at a_137 ⊢
      exact ih hR_133 hf_134 (by first | omega | (intro h; omega) | exact Or.inl rfl | exact Or.inr rfl) (by first | omega | (intro h; omega) | exact Or.inl rfl | exact Or.inr rfl) (by omega)
set_option maxHeartbeats 4000000 in
set_option maxRecDepth 20000 in
theorem yc_Model_note {D : va_G} {cA : FieldType → ClassId} {b : Nat} {E : State → Prop} {R : qRg} {o n : Nat} {sh : Nat → qC} {Rf : Nat → Nat → Option Nat} {I0 : Nat → Nat → Int32} {L0 : Nat → Nat → Int64} {post : Option Value → qS → Prop} (hok : q_ok (qGG D cA b E)) (hw : WfModel (qGG D cA b E) n sh Rf o) (ra : RAModel R o) (hZ : Fz R I0 o wModel_note) (hR0 : RI R I0) (hq0 : (I0 o 57).toInt ≤ 239) (hR : RI R I0) (hp : ∀ (I' : Nat → Nat → Int32) (L' : Nat → Nat → Int64), RI R I' → Fm (fun c => (o + 71 ≤ c ∧ c < o + 75)) I0 I' → post none (n, sh, Rf, I', L')) : Ev (qGG D cA b E) mModel_note 2 (0, 0) 0 (lv_args 0 [.ref o]) [] (n, sh, Rf, I0, L0) post := by
  have hf : Fm (fun c => (o + 71 ≤ c ∧ c < o + 75)) I0 I0 := Fm.rf
  have g_138 : (0 : Int) ≤ (I0 o 57).toInt ∧ (I0 o 57).toInt ≤ 240 := hR.at0 ra 57 (by decide)
  refine sModel_note_0 o n sh Rf I0 L0 post  hok hw ?_
  unfold fModel_note_0
  have l_139 : (0 : Int32).toInt = 0 := rfl
  exact yModel_note_2 (I0 := I0) (L0 := L0) hok hw ra hZ hR0 hq0 hp  _ hR hf (by first | omega | (intro h; omega) | exact Or.inl rfl | exact Or.inr rfl) (by first | omega | (intro h; omega) | exact Or.inl rfl | exact Or.inr rfl) (Nat.lt_succ_self _)
theorem y_Model_note {D : va_G} {cA : FieldType → ClassId} {b : Nat} {E : State → Prop} {R : qRg} {o n : Nat} {sh : Nat → qC} {Rf : Nat → Nat → Option Nat} {I0 : Nat → Nat → Int32} {L0 : Nat → Nat → Int64} {post : Option Value → qS → Prop} (hok : q_ok (qGG D cA b E)) (hw : WfModel (qGG D cA b E) n sh Rf o) (ra : RAModel R o) (hq0 : (I0 o 57).toInt ≤ 239) (hR : RI R I0) (hp : ∀ (I' : Nat → Nat → Int32) (L' : Nat → Nat → Int64), RI R I' → Fm (fun c => (o + 71 ≤ c ∧ c < o + 75)) I0 I' → Kp wModel_note I0 I' o → post none (n, sh, Rf, I', L')) : Ev (qGG D cA b E) mModel_note 2 (0, 0) 0 (lv_args 0 [.ref o]) [] (n, sh, Rf, I0, L0) post :=
  yc_Model_note (R := fzR R I0 o wModel_note) hok hw (fzA ra hR _) fzZ (fzI hR) hq0 (fzI hR) (fun I' L' h1 h2  => hp I' L' (fzB hR h1) h2 (fzP h1) )
def wModel_make : Nat → Bool := fun j => false
set_option maxHeartbeats 4000000 in
set_option maxRecDepth 20000 in
theorem yModel_make_37 {D : va_G} {cA : FieldType → ClassId} {b : Nat} {E : State → Prop} {R : qRg} {o n : Nat} {sh : Nat → qC} {Rf : Nat → Nat → Option Nat} {I0 : Nat → Nat → Int32} {L0 : Nat → Nat → Int64} {post : Option Value → qS → Prop} (hok : q_ok (qGG D cA b E)) (hw : WfModel (qGG D cA b E) n sh Rf o) (ra : RAModel R o) (hZ : Fz R I0 o wModel_make) (hR0 : RI R I0) (hp : ∀ (I' : Nat → Nat → Int32) (L' : Nat → Nat → Int64), RI R I' → Fm (fun c => c = o + 44) I0 I' → post none (n, sh, Rf, I', L')) {k2 : Nat} (ho2 : ∀ {x1 : Int32} {I : Nat → Nat → Int32} {L : Nat → Nat → Int64}, RI R I → Fm (fun c => c = o + 44) I0 I → ((0 : Int) ≤ x1.toInt ∧ x1.toInt ≤ 3) → (3 - x1.toInt).toNat < k2 → Ev (qGG D cA b E) mModel_make 1 (0, 0) 2 [(0, .ref o), (1, .int x1)] [] (n, sh, Rf, I, L) post) : ∀ (k : Nat) {x1 : Int32} {x2 : Int32} {x3 : Int32} {I : Nat → Nat → Int32} {L : Nat → Nat → Int64}, RI R I → Fm (fun c => c = o + 44) I0 I → ((0 : Int) ≤ x3.toInt ∧ x3.toInt ≤ 40) → ((0 : Int) ≤ x1.toInt ∧ x1.toInt ≤ 2) → ((3 - x1.toInt).toNat < k2 + 1) → (40 - x3.toInt).toNat < k → Ev (qGG D cA b E) mModel_make 1 (0, 0) 37 [(0, .ref o), (1, .int x1), (2, .int x2), (3, .int x3)] [] (n, sh, Rf, I, L) post := by
  intro k
  induction k with
  | zero =>
    intro x1 x2 x3 I L hR hf hi0 hi1 hi2 hm
    exact absurd hm (Nat.not_lt_zero _)
  | succ k ih =>
    intro x1 x2 x3 I L hR hf hi0 hi1 hi2 hm
    refine sModel_make_37 o n sh Rf I L post x1 x2 x3 hok hw ?_
    unfold fModel_make_37
    have g_1 : (0 : Int) ≤ (I o 67).toInt ∧ (I o 67).toInt ≤ 40 := hR.at0 ra 67 (by decide)
    refine ⟨fun c_2 => ?_, fun c_2 => ?_⟩
    · have d_3 := iLe c_2
      refine ⟨tIn (by omega) (by omega), ?_⟩
      refine ⟨tIn (by omega) (by omega), fun I_4 e_5 => ?_⟩
      have hR_6 : RI R I_4 := hR.up ra 44 (by decide) (Or.inl rfl) e_5 (i_lo _) (i_hi _)
      have hf_7 : Fm (fun c => c = o + 44) I0 I_4 := hf.set (by first | rfl | omega | (dsimp only; omega)) e_5
      have t_8 : (I_4 o 67).toInt = (I o 67).toInt := by rw [← e_5, q_u_ne (by omega)]
      have a_10 : (x1 + Int32.ofInt 1).toInt = x1.toInt + (1) := tIc (by omega) (by omega) (by decide) (by decide)
      generalize ez_9 : (x1 + Int32.ofInt 1) = z_9 at a_10 ⊢
      exact ho2 hR_6 hf_7 (by first | omega | (intro h; omega) | exact Or.inl rfl | exact Or.inr rfl) (by omega)
    · have d_11 := iNle c_2
      have l_12 : (0 : Int32).toInt = 0 := rfl
      refine y_Model_counts hok hw ra (by first | omega | (intro h; omega) | exact Or.inl rfl | exact Or.inr rfl) hR (fun r_13 u_14 u_15 => ⟨r_13, I, L, rfl, rfl, ?_⟩)
      have b_16 : 0 ≤ r_13.toInt ∧ r_13.toInt ≤ 1 := u_14.rg
      refine ⟨fun c_17 => ?_, fun c_17 => ?_⟩
      · have d_18 := iEq c_17
        unfold fModel_make_107
        have a_20 : (x3 + Int32.ofInt 1).toInt = x3.toInt + (1) := tIc (by omega) (by omega) (by decide) (by decide)
        generalize ez_19 : (x3 + Int32.ofInt 1) = z_19 at a_20 ⊢
        exact ih hR hf (by first | omega | (intro h; omega) | exact Or.inl rfl | exact Or.inr rfl) (by first | omega | (intro h; omega) | exact Or.inl rfl | exact Or.inr rfl) (by first | omega | (intro h; omega) | exact Or.inl rfl | exact Or.inr rfl) (by omega)
      · have d_21 := iNe c_17
        refine ⟨tIn (by omega) (by omega), ?_⟩
        refine ⟨fun c_22 => ?_, fun c_22 => ?_⟩
        · have d_23 := iNe c_22
          unfold fModel_make_107
          have a_25 : (x3 + Int32.ofInt 1).toInt = x3.toInt + (1) := tIc (by omega) (by omega) (by decide) (by decide)
          generalize ez_24 : (x3 + Int32.ofInt 1) = z_24 at a_25 ⊢
          exact ih hR hf (by first | omega | (intro h; omega) | exact Or.inl rfl | exact Or.inr rfl) (by first | omega | (intro h; omega) | exact Or.inl rfl | exact Or.inr rfl) (by first | omega | (intro h; omega) | exact Or.inl rfl | exact Or.inr rfl) (by omega)
        · have d_26 := iEq c_22
          refine ⟨tIn (by omega) (by omega), ?_⟩
          have g_27 : (0 : Int) ≤ (I o 57).toInt ∧ (I o 57).toInt ≤ 240 := hR.at0 ra 57 (by decide)
          refine ⟨fun c_28 => ?_, fun c_28 => ?_⟩
          · have d_29 := iEq c_28
            refine ⟨tIn (by omega) (by omega), ?_⟩
            have l_30 : (999999 : Int32).toInt = 999999 := rfl
            refine ⟨fun c_31 => ?_, fun c_31 => ?_⟩
            · have d_32 := iLe c_31
              unfold fModel_make_106
              unfold fModel_make_107
              have a_34 : (x3 + Int32.ofInt 1).toInt = x3.toInt + (1) := tIc (by omega) (by omega) (by decide) (by decide)
              generalize ez_33 : (x3 + Int32.ofInt 1) = z_33 at a_34 ⊢
              exact ih hR hf (by first | omega | (intro h; omega) | exact Or.inl rfl | exact Or.inr rfl) (by first | omega | (intro h; omega) | exact Or.inl rfl | exact Or.inr rfl) (by first | omega | (intro h; omega) | exact Or.inl rfl | exact Or.inr rfl) (by omega)
            · have d_35 := iNle c_31
              unfold fModel_make_106
              unfold fModel_make_107
              have a_37 : (x3 + Int32.ofInt 1).toInt = x3.toInt + (1) := tIc (by omega) (by omega) (by decide) (by decide)
              generalize ez_36 : (x3 + Int32.ofInt 1) = z_36 at a_37 ⊢
              exact ih hR hf (by first | omega | (intro h; omega) | exact Or.inl rfl | exact Or.inr rfl) (by first | omega | (intro h; omega) | exact Or.inl rfl | exact Or.inr rfl) (by first | omega | (intro h; omega) | exact Or.inl rfl | exact Or.inr rfl) (by omega)
          · have d_38 := iNe c_28
            unfold fModel_make_107
            have a_40 : (x3 + Int32.ofInt 1).toInt = x3.toInt + (1) := tIc (by omega) (by omega) (by decide) (by decide)
            generalize ez_39 : (x3 + Int32.ofInt 1) = z_39 at a_40 ⊢
            exact ih hR hf (by first | omega | (intro h; omega) | exact Or.inl rfl | exact Or.inr rfl) (by first | omega | (intro h; omega) | exact Or.inl rfl | exact Or.inr rfl) (by first | omega | (intro h; omega) | exact Or.inl rfl | exact Or.inr rfl) (by omega)
set_option maxHeartbeats 4000000 in
set_option maxRecDepth 20000 in
theorem yModel_make_2 {D : va_G} {cA : FieldType → ClassId} {b : Nat} {E : State → Prop} {R : qRg} {o n : Nat} {sh : Nat → qC} {Rf : Nat → Nat → Option Nat} {I0 : Nat → Nat → Int32} {L0 : Nat → Nat → Int64} {post : Option Value → qS → Prop} (hok : q_ok (qGG D cA b E)) (hw : WfModel (qGG D cA b E) n sh Rf o) (ra : RAModel R o) (hZ : Fz R I0 o wModel_make) (hR0 : RI R I0) (hp : ∀ (I' : Nat → Nat → Int32) (L' : Nat → Nat → Int64), RI R I' → Fm (fun c => c = o + 44) I0 I' → post none (n, sh, Rf, I', L')) : ∀ (k : Nat) {x1 : Int32} {I : Nat → Nat → Int32} {L : Nat → Nat → Int64}, RI R I → Fm (fun c => c = o + 44) I0 I → ((0 : Int) ≤ x1.toInt ∧ x1.toInt ≤ 3) → (3 - x1.toInt).toNat < k → Ev (qGG D cA b E) mModel_make 1 (0, 0) 2 [(0, .ref o), (1, .int x1)] [] (n, sh, Rf, I, L) post := by
  intro k
  induction k with
  | zero =>
    intro x1 I L hR hf hi0 hm
    exact absurd hm (Nat.not_lt_zero _)
  | succ k ih =>
    intro x1 I L hR hf hi0 hm
    refine sModel_make_2 o n sh Rf I L post x1 hok hw ?_
    unfold fModel_make_2
    refine y_Model_pans hok hw ra hR (fun r_41 u_42 => ⟨r_41, I, L, rfl, rfl, ?_⟩)
    refine ⟨fun c_43 => ?_, fun c_43 => ?_⟩
    · have d_44 := iLe c_43
      exact (hp _ _ hR hf )
    · have d_45 := iNle c_43
      have g_46 : (0 : Int) ≤ (I o 34).toInt ∧ (I o 34).toInt ≤ 1 := hR.at0 ra 34 (by decide)
      have l_47 : (3 : Int32).toInt = 3 := rfl
      have a_48 : (3 * (I o 34)).toInt = 3 * (I o 34).toInt := tMulL rfl (by omega) (by omega)
      have a_49 : ((3 * (I o 34)) + x1).toInt = (3 * (I o 34)).toInt + x1.toInt := tAdd (by omega) (by omega)
      have l_50 : (12 : Int32).toInt = 12 := rfl
      have a_51 : (12 * ((3 * (I o 34)) + x1)).toInt = 12 * ((3 * (I o 34)) + x1).toInt := tMulL rfl (by omega) (by omega)
      have g_52 : (0 : Int) ≤ (I o 57).toInt ∧ (I o 57).toInt ≤ 240 := hR.at0 ra 57 (by decide)
      have q_53 : ((I o 57) / 12 : Int32).toInt = (I o 57).toInt / 12 := tDiv rfl (by decide) (by omega)
      have q_54 : ((I o 57) / 12 * 12 : Int32).toInt = (I o 57).toInt / 12 * 12 := (tMul (c := 12) rfl (by omega) (by omega)).trans (by omega)
      have q_55 : ((I o 57) - (I o 57) / 12 * 12).toInt = (I o 57).toInt - (I o 57).toInt / 12 * 12 := (tSub (by omega) (by omega)).trans (by omega)
      have a_56 : ((12 * ((3 * (I o 34)) + x1)) + ((I o 57) - (I o 57) / 12 * 12)).toInt = (12 * ((3 * (I o 34)) + x1)).toInt + ((I o 57) - (I o 57) / 12 * 12).toInt := tAdd (by omega) (by omega)
      refine ⟨tIn (by omega) (by omega), ?_⟩
      have l_57 : (0 : Int32).toInt = 0 := rfl
      exact yModel_make_37 (I0 := I0) (L0 := L0) hok hw ra hZ hR0 hp ih _ hR hf (by first | omega | (intro h; omega) | exact Or.inl rfl | exact Or.inr rfl) (by first | omega | (intro h; omega) | exact Or.inl rfl | exact Or.inr rfl) (by first | omega | (intro h; omega) | exact Or.inl rfl | exact Or.inr rfl) (Nat.lt_succ_self _)
set_option maxHeartbeats 4000000 in
set_option maxRecDepth 20000 in
theorem yc_Model_make {D : va_G} {cA : FieldType → ClassId} {b : Nat} {E : State → Prop} {R : qRg} {o n : Nat} {sh : Nat → qC} {Rf : Nat → Nat → Option Nat} {I0 : Nat → Nat → Int32} {L0 : Nat → Nat → Int64} {post : Option Value → qS → Prop} (hok : q_ok (qGG D cA b E)) (hw : WfModel (qGG D cA b E) n sh Rf o) (ra : RAModel R o) (hZ : Fz R I0 o wModel_make) (hR0 : RI R I0) (hR : RI R I0) (hp : ∀ (I' : Nat → Nat → Int32) (L' : Nat → Nat → Int64), RI R I' → Fm (fun c => c = o + 44) I0 I' → post none (n, sh, Rf, I', L')) : Ev (qGG D cA b E) mModel_make 1 (0, 0) 0 (lv_args 0 [.ref o]) [] (n, sh, Rf, I0, L0) post := by
  have hf : Fm (fun c => c = o + 44) I0 I0 := Fm.rf
  refine sModel_make_0 o n sh Rf I0 L0 post  hok hw ?_
  unfold fModel_make_0
  have l_58 : (0 : Int32).toInt = 0 := rfl
  exact yModel_make_2 (I0 := I0) (L0 := L0) hok hw ra hZ hR0 hp  _ hR hf (by first | omega | (intro h; omega) | exact Or.inl rfl | exact Or.inr rfl) (Nat.lt_succ_self _)
theorem y_Model_make {D : va_G} {cA : FieldType → ClassId} {b : Nat} {E : State → Prop} {R : qRg} {o n : Nat} {sh : Nat → qC} {Rf : Nat → Nat → Option Nat} {I0 : Nat → Nat → Int32} {L0 : Nat → Nat → Int64} {post : Option Value → qS → Prop} (hok : q_ok (qGG D cA b E)) (hw : WfModel (qGG D cA b E) n sh Rf o) (ra : RAModel R o) (hR : RI R I0) (hp : ∀ (I' : Nat → Nat → Int32) (L' : Nat → Nat → Int64), RI R I' → Fm (fun c => c = o + 44) I0 I' → Kp wModel_make I0 I' o → post none (n, sh, Rf, I', L')) : Ev (qGG D cA b E) mModel_make 1 (0, 0) 0 (lv_args 0 [.ref o]) [] (n, sh, Rf, I0, L0) post :=
  yc_Model_make (R := fzR R I0 o wModel_make) hok hw (fzA ra hR _) fzZ (fzI hR) (fzI hR) (fun I' L' h1 h2  => hp I' L' (fzB hR h1) h2 (fzP h1) )
def wModel_give : Nat → Bool := fun j => Nat.beq j 114 || false
set_option maxHeartbeats 4000000 in
set_option maxRecDepth 20000 in
theorem yc_Model_give {D : va_G} {cA : FieldType → ClassId} {b : Nat} {E : State → Prop} {R : qRg} {o n : Nat} {sh : Nat → qC} {Rf : Nat → Nat → Option Nat} {I0 : Nat → Nat → Int32} {L0 : Nat → Nat → Int64} {post : Option Value → qS → Prop} {p1 : Int32} {p2 : Int32} {p3 : Int32} {p4 : Int32} {p5 : Int32} (hok : q_ok (qGG D cA b E)) (hw : WfModel (qGG D cA b E) n sh Rf o) (ra : RAModel R o) (hz114 : R.2 114 = true) (hZ : Fz R I0 o wModel_give) (hR0 : RI R I0) (hq0 : (-1 : Int) ≤ p1.toInt ∧ p1.toInt ≤ 5) (hq1 : (I0 o 104).toInt ≤ 1999) (hR : RI R I0) (hp : ∀ (I' : Nat → Nat → Int32) (L' : Nat → Nat → Int64), RI R I' → Fm (fun c => c = o ∨ (o + 51 ≤ c ∧ c < o + 57) ∨ c = o + 65 ∨ c = o + 66) I0 I' → post none (n, sh, Rf, I', L')) : Ev (qGG D cA b E) mModel_give 2 (0, 0) 0 (lv_args 0 [.ref o, .int p1, .int p2, .int p3, .int p4, .int p5]) [] (n, sh, Rf, I0, L0) post := by
  have hf : Fm (fun c => c = o ∨ (o + 51 ≤ c ∧ c < o + 57) ∨ c = o + 65 ∨ c = o + 66) I0 I0 := Fm.rf
  have g_1 : (0 : Int) ≤ (I0 o 104).toInt ∧ (I0 o 104).toInt ≤ 2000 := hR.at0 ra 104 (by decide)
  refine sModel_give_0 o n sh Rf I0 L0 post p1 p2 p3 p4 p5 hok hw ?_
  unfold fModel_give_0
  have l_2 : (0 : Int32).toInt = 0 := rfl
  refine ⟨fun c_3 => ?_, fun c_3 => ?_⟩
  · have d_4 := iNe c_3
    have g_5 : (0 : Int) ≤ (I0 o 104).toInt ∧ (I0 o 104).toInt ≤ 2000 := hR.at0 ra 104 (by decide)
    refine ⟨tIn (by omega) (by omega), fun I_6 e_7 => ?_⟩
    have hR_8 : RI R I_6 := hR.up ra 51 (by decide) (Or.inl rfl) e_7 (show (-1 : Int) ≤ p1.toInt by omega) (show p1.toInt ≤ (5 : Int) by omega)
    have hf_9 : Fm (fun c => c = o ∨ (o + 51 ≤ c ∧ c < o + 57) ∨ c = o + 65 ∨ c = o + 66) I0 I_6 := hf.set (by first | rfl | omega | (dsimp only; omega)) e_7
    have t_10 : (I_6 o 104).toInt = (I0 o 104).toInt := by rw [← e_7, q_u_ne (by omega)]
    refine ⟨tIn (by omega) (by omega), fun I_11 e_12 => ?_⟩
    have hR_13 : RI R I_11 := hR_8.up ra 52 (by decide) (Or.inl rfl) e_12 (i_lo _) (i_hi _)
    have hf_14 : Fm (fun c => c = o ∨ (o + 51 ≤ c ∧ c < o + 57) ∨ c = o + 65 ∨ c = o + 66) I0 I_11 := hf_9.set (by first | rfl | omega | (dsimp only; omega)) e_12
    have t_15 : (I_11 o 104).toInt = (I_6 o 104).toInt := by rw [← e_12, q_u_ne (by omega)]
    refine ⟨tIn (by omega) (by omega), fun I_16 e_17 => ?_⟩
    have hR_18 : RI R I_16 := hR_13.up ra 53 (by decide) (Or.inl rfl) e_17 (i_lo _) (i_hi _)
    have hf_19 : Fm (fun c => c = o ∨ (o + 51 ≤ c ∧ c < o + 57) ∨ c = o + 65 ∨ c = o + 66) I0 I_16 := hf_14.set (by first | rfl | omega | (dsimp only; omega)) e_17
    have t_20 : (I_16 o 104).toInt = (I_11 o 104).toInt := by rw [← e_17, q_u_ne (by omega)]
    have g_21 : (0 : Int) ≤ (I_16 o 57).toInt ∧ (I_16 o 57).toInt ≤ 240 := hR_18.at0 ra 57 (by decide)
    refine ⟨tIn (by omega) (by omega), fun I_22 e_23 => ?_⟩
    have hR_24 : RI R I_22 := hR_18.up ra 54 (by decide) (Or.inl rfl) e_23 (i_lo _) (i_hi _)
    have hf_25 : Fm (fun c => c = o ∨ (o + 51 ≤ c ∧ c < o + 57) ∨ c = o + 65 ∨ c = o + 66) I0 I_22 := hf_19.set (by first | rfl | omega | (dsimp only; omega)) e_23
    have t_26 : (I_22 o 104).toInt = (I_16 o 104).toInt := by rw [← e_23, q_u_ne (by omega)]
    have t_27 : (I_22 o 57).toInt = (I_16 o 57).toInt := by rw [← e_23, q_u_ne (by omega)]
    refine ⟨tIn (by omega) (by omega), fun I_28 e_29 => ?_⟩
    have hR_30 : RI R I_28 := hR_24.up ra 55 (by decide) (Or.inl rfl) e_29 (i_lo _) (i_hi _)
    have hf_31 : Fm (fun c => c = o ∨ (o + 51 ≤ c ∧ c < o + 57) ∨ c = o + 65 ∨ c = o + 66) I0 I_28 := hf_25.set (by first | rfl | omega | (dsimp only; omega)) e_29
    have t_32 : (I_28 o 104).toInt = (I_22 o 104).toInt := by rw [← e_29, q_u_ne (by omega)]
    have t_33 : (I_28 o 57).toInt = (I_22 o 57).toInt := by rw [← e_29, q_u_ne (by omega)]
    have l_34 : (-1 : Int32).toInt = -1 := rfl
    refine ⟨tIn (by omega) (by omega), fun I_35 e_36 => ?_⟩
    have hR_37 : RI R I_35 := hR_30.up ra 56 (by decide) (Or.inl rfl) e_36 (i_lo _) (i_hi _)
    have hf_38 : Fm (fun c => c = o ∨ (o + 51 ≤ c ∧ c < o + 57) ∨ c = o + 65 ∨ c = o + 66) I0 I_35 := hf_31.set (by first | rfl | omega | (dsimp only; omega)) e_36
    have t_39 : (I_35 o 104).toInt = (I_28 o 104).toInt := by rw [← e_36, q_u_ne (by omega)]
    have t_40 : (I_35 o 57).toInt = (I_28 o 57).toInt := by rw [← e_36, q_u_ne (by omega)]
    refine ⟨tIn (by omega) (by omega), fun I_41 e_42 => ?_⟩
    have hR_43 : RI R I_41 := hR_37.up ra 65 (by decide) (Or.inl rfl) e_42 (i_lo _) (i_hi _)
    have hf_44 : Fm (fun c => c = o ∨ (o + 51 ≤ c ∧ c < o + 57) ∨ c = o + 65 ∨ c = o + 66) I0 I_41 := hf_38.set (by first | rfl | omega | (dsimp only; omega)) e_42
    have t_45 : (I_41 o 104).toInt = (I_35 o 104).toInt := by rw [← e_42, q_u_ne (by omega)]
    have t_46 : (I_41 o 57).toInt = (I_35 o 57).toInt := by rw [← e_42, q_u_ne (by omega)]
    refine ⟨tIn (by omega) (by omega), fun I_47 e_48 => ?_⟩
    have hR_49 : RI R I_47 := hR_43.up ra 66 (by decide) (Or.inl rfl) e_48 (i_lo _) (i_hi _)
    have hf_50 : Fm (fun c => c = o ∨ (o + 51 ≤ c ∧ c < o + 57) ∨ c = o + 65 ∨ c = o + 66) I0 I_47 := hf_44.set (by first | rfl | omega | (dsimp only; omega)) e_48
    have t_51 : (I_47 o 104).toInt = (I_41 o 104).toInt := by rw [← e_48, q_u_ne (by omega)]
    have t_52 : (I_47 o 57).toInt = (I_41 o 57).toInt := by rw [← e_48, q_u_ne (by omega)]
    have g_53 : (0 : Int) ≤ (I_47 o 104).toInt ∧ (I_47 o 104).toInt ≤ 2000 := hR_49.at0 ra 104 (by decide)
    have l_54 : (1 : Int32).toInt = 1 := rfl
    have a_55 : ((I_47 o 104) + 1).toInt = (I_47 o 104).toInt + (1 : Int32).toInt := tAdd (by omega) (by omega)
    refine fun I_56 e_57 => ?_
    have hR_58 : RI R I_56 := hR_49.up0 (k := 104) ra (by decide) (Or.inr hz114) e_57 (show (0 : Int) ≤ ((I_47 o 104) + 1).toInt by omega) (show ((I_47 o 104) + 1).toInt ≤ (2000 : Int) by omega)
    have hf_59 : Fm (fun c => c = o ∨ (o + 51 ≤ c ∧ c < o + 57) ∨ c = o + 65 ∨ c = o + 66) I0 I_56 := hf_50.set (by first | rfl | omega | (dsimp only; omega)) e_57
    have t_60 : (I_56 o 104).toInt = ((I_47 o 104) + 1).toInt := by rw [← e_57, q_u_at]
    have t_61 : (I_56 o 57).toInt = (I_47 o 57).toInt := by rw [← e_57, q_u_k (by decide)]
    refine y_Model_forge hok hw ra (by first | omega | (intro h; omega) | exact Or.inl rfl | exact Or.inr rfl) hR_58 (fun I_63 L_64 hR_65 fr_66 kp_67  => ⟨I_63, L_64, rfl, rfl, ?_⟩)
    have hf_68 : Fm (fun c => c = o ∨ (o + 51 ≤ c ∧ c < o + 57) ∨ c = o + 65 ∨ c = o + 66) I0 I_63 := hf_59.call fr_66 (fun c hc => by first | exact hc | (dsimp only at hc ⊢; omega) | omega)
    have t_69 : (I_63 o 104).toInt = (I_56 o 104).toInt := by rw [kp_67 104 rfl]
    have t_70 : (I_63 o 57).toInt = (I_56 o 57).toInt := by rw [kp_67 57 rfl]
    exact (hp _ _ hR_65 hf_68 )
  · have d_71 := iEq c_3
    exact (hp _ _ hR hf )
theorem y_Model_give {D : va_G} {cA : FieldType → ClassId} {b : Nat} {E : State → Prop} {R : qRg} {o n : Nat} {sh : Nat → qC} {Rf : Nat → Nat → Option Nat} {I0 : Nat → Nat → Int32} {L0 : Nat → Nat → Int64} {post : Option Value → qS → Prop} {p1 : Int32} {p2 : Int32} {p3 : Int32} {p4 : Int32} {p5 : Int32} (hok : q_ok (qGG D cA b E)) (hw : WfModel (qGG D cA b E) n sh Rf o) (ra : RAModel R o) (hz114 : R.2 114 = true) (hq0 : (-1 : Int) ≤ p1.toInt ∧ p1.toInt ≤ 5) (hq1 : (I0 o 104).toInt ≤ 1999) (hR : RI R I0) (hp : ∀ (I' : Nat → Nat → Int32) (L' : Nat → Nat → Int64), RI R I' → Fm (fun c => c = o ∨ (o + 51 ≤ c ∧ c < o + 57) ∨ c = o + 65 ∨ c = o + 66) I0 I' → Kp wModel_give I0 I' o → post none (n, sh, Rf, I', L')) : Ev (qGG D cA b E) mModel_give 2 (0, 0) 0 (lv_args 0 [.ref o, .int p1, .int p2, .int p3, .int p4, .int p5]) [] (n, sh, Rf, I0, L0) post :=
  yc_Model_give (R := fzR R I0 o wModel_give) hok hw (fzA ra hR _) (fzT hz114 rfl) fzZ (fzI hR) hq0 hq1 (fzI hR) (fun I' L' h1 h2  => hp I' L' (fzB hR h1) h2 (fzP h1) )
def wModel_send : Nat → Bool := fun j => Nat.beq j 115 || false
set_option maxHeartbeats 4000000 in
set_option maxRecDepth 20000 in
theorem yc_Model_send {D : va_G} {cA : FieldType → ClassId} {b : Nat} {E : State → Prop} {R : qRg} {o n : Nat} {sh : Nat → qC} {Rf : Nat → Nat → Option Nat} {I0 : Nat → Nat → Int32} {L0 : Nat → Nat → Int64} {post : Option Value → qS → Prop} {p1 : Int32} {p2 : Int32} {p3 : Int32} {p4 : Int32} {p5 : Int32} {p6 : Int32} {p7 : Int32} (hok : q_ok (qGG D cA b E)) (hw : WfModel (qGG D cA b E) n sh Rf o) (ra : RAModel R o) (hz115 : R.2 115 = true) (hZ : Fz R I0 o wModel_send) (hR0 : RI R I0) (hq0 : (-1 : Int) ≤ p1.toInt ∧ p1.toInt ≤ 5) (hq1 : (I0 o 105).toInt ≤ 3999) (hR : RI R I0) (hp : ∀ (I' : Nat → Nat → Int32) (L' : Nat → Nat → Int64), RI R I' → Fm (fun c => c = o ∨ (o + 58 ≤ c ∧ c < o + 65) ∨ c = o + 67) I0 I' → post none (n, sh, Rf, I', L')) : Ev (qGG D cA b E) mModel_send 1 (0, 0) 0 (lv_args 0 [.ref o, .int p1, .int p2, .int p3, .int p4, .int p5, .int p6, .int p7]) [] (n, sh, Rf, I0, L0) post := by
  have hf : Fm (fun c => c = o ∨ (o + 58 ≤ c ∧ c < o + 65) ∨ c = o + 67) I0 I0 := Fm.rf
  have g_1 : (0 : Int) ≤ (I0 o 105).toInt ∧ (I0 o 105).toInt ≤ 4000 := hR.at0 ra 105 (by decide)
  refine sModel_send_0 o n sh Rf I0 L0 post p1 p2 p3 p4 p5 p6 p7 hok hw ?_
  unfold fModel_send_0
  have g_2 : (0 : Int) ≤ (I0 o 105).toInt ∧ (I0 o 105).toInt ≤ 4000 := hR.at0 ra 105 (by decide)
  refine ⟨tIn (by omega) (by omega), fun I_3 e_4 => ?_⟩
  have hR_5 : RI R I_3 := hR.up ra 58 (by decide) (Or.inl rfl) e_4 (show (-1 : Int) ≤ p1.toInt by omega) (show p1.toInt ≤ (5 : Int) by omega)
  have hf_6 : Fm (fun c => c = o ∨ (o + 58 ≤ c ∧ c < o + 65) ∨ c = o + 67) I0 I_3 := hf.set (by first | rfl | omega | (dsimp only; omega)) e_4
  have t_7 : (I_3 o 105).toInt = (I0 o 105).toInt := by rw [← e_4, q_u_ne (by omega)]
  have g_8 : (0 : Int) ≤ (I_3 o 105).toInt ∧ (I_3 o 105).toInt ≤ 4000 := hR_5.at0 ra 105 (by decide)
  have g_9 : (0 : Int) ≤ (I_3 o 57).toInt ∧ (I_3 o 57).toInt ≤ 240 := hR_5.at0 ra 57 (by decide)
  refine y_Model_monthsOf hok hR_5 (fun r_10  => ⟨r_10, I_3, L0, rfl, rfl, ?_⟩)
  refine y_Model_atLeastOne hok hR_5 (fun r_11 u_12 => ⟨r_11, I_3, L0, rfl, rfl, ?_⟩)
  refine ⟨tIn (by omega) (by omega), fun I_13 e_14 => ?_⟩
  have hR_15 : RI R I_13 := hR_5.up ra 59 (by decide) (Or.inl rfl) e_14 (i_lo _) (i_hi _)
  have hf_16 : Fm (fun c => c = o ∨ (o + 58 ≤ c ∧ c < o + 65) ∨ c = o + 67) I0 I_13 := hf_6.set (by first | rfl | omega | (dsimp only; omega)) e_14
  have t_17 : (I_13 o 105).toInt = (I_3 o 105).toInt := by rw [← e_14, q_u_ne (by omega)]
  have t_18 : (I_13 o 57).toInt = (I_3 o 57).toInt := by rw [← e_14, q_u_ne (by omega)]
  have g_19 : (0 : Int) ≤ (I_13 o 105).toInt ∧ (I_13 o 105).toInt ≤ 4000 := hR_15.at0 ra 105 (by decide)
  refine ⟨tIn (by omega) (by omega), fun I_20 e_21 => ?_⟩
  have hR_22 : RI R I_20 := hR_15.up ra 67 (by decide) (Or.inl rfl) e_21 (i_lo _) (i_hi _)
  have hf_23 : Fm (fun c => c = o ∨ (o + 58 ≤ c ∧ c < o + 65) ∨ c = o + 67) I0 I_20 := hf_16.set (by first | rfl | omega | (dsimp only; omega)) e_21
  have t_24 : (I_20 o 105).toInt = (I_13 o 105).toInt := by rw [← e_21, q_u_ne (by omega)]
  have t_25 : (I_20 o 57).toInt = (I_13 o 57).toInt := by rw [← e_21, q_u_ne (by omega)]
  have g_26 : (0 : Int) ≤ (I_20 o 105).toInt ∧ (I_20 o 105).toInt ≤ 4000 := hR_22.at0 ra 105 (by decide)
  refine ⟨tIn (by omega) (by omega), fun I_27 e_28 => ?_⟩
  have hR_29 : RI R I_27 := hR_22.up ra 60 (by decide) (Or.inl rfl) e_28 (i_lo _) (i_hi _)
  have hf_30 : Fm (fun c => c = o ∨ (o + 58 ≤ c ∧ c < o + 65) ∨ c = o + 67) I0 I_27 := hf_23.set (by first | rfl | omega | (dsimp only; omega)) e_28
  have t_31 : (I_27 o 105).toInt = (I_20 o 105).toInt := by rw [← e_28, q_u_ne (by omega)]
  have t_32 : (I_27 o 57).toInt = (I_20 o 57).toInt := by rw [← e_28, q_u_ne (by omega)]
  have g_33 : (0 : Int) ≤ (I_27 o 105).toInt ∧ (I_27 o 105).toInt ≤ 4000 := hR_29.at0 ra 105 (by decide)
  refine ⟨tIn (by omega) (by omega), fun I_34 e_35 => ?_⟩
  have hR_36 : RI R I_34 := hR_29.up ra 61 (by decide) (Or.inl rfl) e_35 (i_lo _) (i_hi _)
  have hf_37 : Fm (fun c => c = o ∨ (o + 58 ≤ c ∧ c < o + 65) ∨ c = o + 67) I0 I_34 := hf_30.set (by first | rfl | omega | (dsimp only; omega)) e_35
  have t_38 : (I_34 o 105).toInt = (I_27 o 105).toInt := by rw [← e_35, q_u_ne (by omega)]
  have t_39 : (I_34 o 57).toInt = (I_27 o 57).toInt := by rw [← e_35, q_u_ne (by omega)]
  have g_40 : (0 : Int) ≤ (I_34 o 105).toInt ∧ (I_34 o 105).toInt ≤ 4000 := hR_36.at0 ra 105 (by decide)
  refine ⟨tIn (by omega) (by omega), fun I_41 e_42 => ?_⟩
  have hR_43 : RI R I_41 := hR_36.up ra 62 (by decide) (Or.inl rfl) e_42 (i_lo _) (i_hi _)
  have hf_44 : Fm (fun c => c = o ∨ (o + 58 ≤ c ∧ c < o + 65) ∨ c = o + 67) I0 I_41 := hf_37.set (by first | rfl | omega | (dsimp only; omega)) e_42
  have t_45 : (I_41 o 105).toInt = (I_34 o 105).toInt := by rw [← e_42, q_u_ne (by omega)]
  have t_46 : (I_41 o 57).toInt = (I_34 o 57).toInt := by rw [← e_42, q_u_ne (by omega)]
  have g_47 : (0 : Int) ≤ (I_41 o 105).toInt ∧ (I_41 o 105).toInt ≤ 4000 := hR_43.at0 ra 105 (by decide)
  refine ⟨tIn (by omega) (by omega), fun I_48 e_49 => ?_⟩
  have hR_50 : RI R I_48 := hR_43.up ra 63 (by decide) (Or.inl rfl) e_49 (i_lo _) (i_hi _)
  have hf_51 : Fm (fun c => c = o ∨ (o + 58 ≤ c ∧ c < o + 65) ∨ c = o + 67) I0 I_48 := hf_44.set (by first | rfl | omega | (dsimp only; omega)) e_49
  have t_52 : (I_48 o 105).toInt = (I_41 o 105).toInt := by rw [← e_49, q_u_ne (by omega)]
  have t_53 : (I_48 o 57).toInt = (I_41 o 57).toInt := by rw [← e_49, q_u_ne (by omega)]
  have g_54 : (0 : Int) ≤ (I_48 o 105).toInt ∧ (I_48 o 105).toInt ≤ 4000 := hR_50.at0 ra 105 (by decide)
  refine ⟨tIn (by omega) (by omega), fun I_55 e_56 => ?_⟩
  have hR_57 : RI R I_55 := hR_50.up ra 64 (by decide) (Or.inl rfl) e_56 (i_lo _) (i_hi _)
  have hf_58 : Fm (fun c => c = o ∨ (o + 58 ≤ c ∧ c < o + 65) ∨ c = o + 67) I0 I_55 := hf_51.set (by first | rfl | omega | (dsimp only; omega)) e_56
  have t_59 : (I_55 o 105).toInt = (I_48 o 105).toInt := by rw [← e_56, q_u_ne (by omega)]
  have t_60 : (I_55 o 57).toInt = (I_48 o 57).toInt := by rw [← e_56, q_u_ne (by omega)]
  have g_61 : (0 : Int) ≤ (I_55 o 105).toInt ∧ (I_55 o 105).toInt ≤ 4000 := hR_57.at0 ra 105 (by decide)
  have l_62 : (1 : Int32).toInt = 1 := rfl
  have a_63 : ((I_55 o 105) + 1).toInt = (I_55 o 105).toInt + (1 : Int32).toInt := tAdd (by omega) (by omega)
  refine fun I_64 e_65 => ?_
  have hR_66 : RI R I_64 := hR_57.up0 (k := 105) ra (by decide) (Or.inr hz115) e_65 (show (0 : Int) ≤ ((I_55 o 105) + 1).toInt by omega) (show ((I_55 o 105) + 1).toInt ≤ (4000 : Int) by omega)
  have hf_67 : Fm (fun c => c = o ∨ (o + 58 ≤ c ∧ c < o + 65) ∨ c = o + 67) I0 I_64 := hf_58.set (by first | rfl | omega | (dsimp only; omega)) e_65
  have t_68 : (I_64 o 105).toInt = ((I_55 o 105) + 1).toInt := by rw [← e_65, q_u_at]
  have t_69 : (I_64 o 57).toInt = (I_55 o 57).toInt := by rw [← e_65, q_u_k (by decide)]
  exact (hp _ _ hR_66 hf_67 )
theorem y_Model_send {D : va_G} {cA : FieldType → ClassId} {b : Nat} {E : State → Prop} {R : qRg} {o n : Nat} {sh : Nat → qC} {Rf : Nat → Nat → Option Nat} {I0 : Nat → Nat → Int32} {L0 : Nat → Nat → Int64} {post : Option Value → qS → Prop} {p1 : Int32} {p2 : Int32} {p3 : Int32} {p4 : Int32} {p5 : Int32} {p6 : Int32} {p7 : Int32} (hok : q_ok (qGG D cA b E)) (hw : WfModel (qGG D cA b E) n sh Rf o) (ra : RAModel R o) (hz115 : R.2 115 = true) (hq0 : (-1 : Int) ≤ p1.toInt ∧ p1.toInt ≤ 5) (hq1 : (I0 o 105).toInt ≤ 3999) (hR : RI R I0) (hp : ∀ (I' : Nat → Nat → Int32) (L' : Nat → Nat → Int64), RI R I' → Fm (fun c => c = o ∨ (o + 58 ≤ c ∧ c < o + 65) ∨ c = o + 67) I0 I' → Kp wModel_send I0 I' o → post none (n, sh, Rf, I', L')) : Ev (qGG D cA b E) mModel_send 1 (0, 0) 0 (lv_args 0 [.ref o, .int p1, .int p2, .int p3, .int p4, .int p5, .int p6, .int p7]) [] (n, sh, Rf, I0, L0) post :=
  yc_Model_send (R := fzR R I0 o wModel_send) hok hw (fzA ra hR _) (fzT hz115 rfl) fzZ (fzI hR) hq0 hq1 (fzI hR) (fun I' L' h1 h2  => hp I' L' (fzB hR h1) h2 (fzP h1) )
