/-! Safety of the reference, told: by program (spec.py). -/
set_option maxHeartbeats 4000000 in
set_option maxRecDepth 20000 in
theorem y_Model_term {D : va_G} {cA : FieldType → ClassId} {b : Nat} {E : State → Prop} {R : qRg} {o n : Nat} {sh : Nat → qC} {Rf : Nat → Nat → Option Nat} {I0 : Nat → Nat → Int32} {L0 : Nat → Nat → Int64} {post : Option Value → qS → Prop} {p1 : Int32} {p2 : Int32} (hok : q_ok (qGG D cA b E)) (hw : WfModel (qGG D cA b E) n sh Rf o) (ra : RAModel R o) (hR : RI R I0) (hp : ∀ (r : Int32) , post (some (.int r)) (n, sh, Rf, I0, L0)) : Ev (qGG D cA b E) mModel_term 3 (0, 0) 0 (lv_args 0 [.ref o, .int p1, .int p2]) [] (n, sh, Rf, I0, L0) post := by
  refine sModel_term_0 o n sh Rf I0 L0 post p1 p2 hok hw ?_
  unfold fModel_term_0
  have l_2 : (68 : Int32).toInt = 68 := rfl
  refine ⟨fun c_1 => ?_, fun c_1 => ?_⟩
  · have d_3 := iEq c_1
    exact (hp _ )
  have d_4 := iNe c_1
  have l_6 : (78 : Int32).toInt = 78 := rfl
  refine ⟨fun c_5 => ?_, fun c_5 => ?_⟩
  · have d_7 := iEq c_5
    exact (hp _ )
  have d_8 := iNe c_5
  have l_10 : (97 : Int32).toInt = 97 := rfl
  refine ⟨fun c_9 => ?_, fun c_9 => ?_⟩
  · have d_11 := iEq c_9
    exact (hp _ )
  have d_12 := iNe c_9
  have l_14 : (100 : Int32).toInt = 100 := rfl
  refine ⟨fun c_13 => ?_, fun c_13 => ?_⟩
  · have d_15 := iEq c_13
    refine y_Model_madeAll hok hw ra hR (fun r_16  => ⟨r_16, I0, L0, rfl, rfl, ?_⟩)
    exact (hp _ )
  have d_17 := iNe c_13
  have l_19 : (107 : Int32).toInt = 107 := rfl
  refine ⟨fun c_18 => ?_, fun c_18 => ?_⟩
  · have d_20 := iEq c_18
    exact (hp _ )
  have d_21 := iNe c_18
  have l_23 : (109 : Int32).toInt = 109 := rfl
  refine ⟨fun c_22 => ?_, fun c_22 => ?_⟩
  · have d_24 := iEq c_22
    have g_25 : (0 : Int) ≤ (I0 o 57).toInt ∧ (I0 o 57).toInt ≤ 240 := hR.at0 ra 57 (by decide)
    have l_26 : (12 : Int32).toInt = 12 := rfl
    have q_27 : ((I0 o 57) / 12 : Int32).toInt = (I0 o 57).toInt / 12 := tDiv rfl (by decide) (by omega)
    have q_28 : ((I0 o 57) / 12 * 12 : Int32).toInt = (I0 o 57).toInt / 12 * 12 := (tMul (c := 12) rfl (by omega) (by omega)).trans (by omega)
    have q_29 : ((I0 o 57) - (I0 o 57) / 12 * 12).toInt = (I0 o 57).toInt - (I0 o 57).toInt / 12 * 12 := (tSub (by omega) (by omega)).trans (by omega)
    exact (hp _ )
  have d_30 := iNe c_22
  have l_32 : (110 : Int32).toInt = 110 := rfl
  refine ⟨fun c_31 => ?_, fun c_31 => ?_⟩
  · have d_33 := iEq c_31
    exact (hp _ )
  have d_34 := iNe c_31
  have l_36 : (115 : Int32).toInt = 115 := rfl
  refine ⟨fun c_35 => ?_, fun c_35 => ?_⟩
  · have d_37 := iEq c_35
    exact (hp _ )
  have d_38 := iNe c_35
  have l_40 : (119 : Int32).toInt = 119 := rfl
  refine ⟨fun c_39 => ?_, fun c_39 => ?_⟩
  · have d_41 := iEq c_39
    refine y_Model_waitingAll hok hw ra hR (fun r_42  => ⟨r_42, I0, L0, rfl, rfl, ?_⟩)
    exact (hp _ )
  have d_43 := iNe c_39
  have l_45 : (121 : Int32).toInt = 121 := rfl
  refine ⟨fun c_44 => ?_, fun c_44 => ?_⟩
  · have d_46 := iEq c_44
    have g_47 : (0 : Int) ≤ (I0 o 57).toInt ∧ (I0 o 57).toInt ≤ 240 := hR.at0 ra 57 (by decide)
    have l_48 : (12 : Int32).toInt = 12 := rfl
    have q_49 : ((I0 o 57) / 12 : Int32).toInt = (I0 o 57).toInt / 12 := tDiv rfl (by decide) (by omega)
    exact (hp _ )
  have d_50 := iNe c_44
  exact (hp _ )
def wModel_told : Nat → Bool := fun j => false
set_option maxHeartbeats 4000000 in
set_option maxRecDepth 20000 in
theorem yModel_told_35 {D : va_G} {cA : FieldType → ClassId} {b : Nat} {E : State → Prop} {R : qRg} {o n : Nat} {sh : Nat → qC} {Rf : Nat → Nat → Option Nat} {I0 : Nat → Nat → Int32} {L0 : Nat → Nat → Int64} {post : Option Value → qS → Prop} {p1 : Int32} {p2 : Int32} (hok : q_ok (qGG D cA b E)) (hw : WfModel (qGG D cA b E) n sh Rf o) (ra : RAModel R o) (hZ : Fz R I0 o wModel_told) (hR0 : RI R I0) (hq0 : (0 : Int) ≤ p1.toInt ∧ p1.toInt ≤ 5) (hq1 : (0 : Int) ≤ p2.toInt ∧ p2.toInt ≤ 9) (hq2 : p1.toInt ≠ 4) (hq3 : MTd I0 o) (hp : ∀ (r : Int32) (I' : Nat → Nat → Int32) (L' : Nat → Nat → Int64), RI R I' → Fm (fun c => c = o + 34) I0 I' → (MTd I' o) → post (some (.int r)) (n, sh, Rf, I', L')) : ∀ (k : Nat) {x1 : Int32} {x2 : Int32} {x3 : Int32} {x4 : Int32} {x5 : Int32} {I : Nat → Nat → Int32} {L : Nat → Nat → Int64}, RI R I → Fm (fun c => c = o + 34) I0 I → ((0 : Int) ≤ x3.toInt ∧ x3.toInt ≤ 59) → ((0 : Int) ≤ x4.toInt ∧ x4.toInt ≤ 100) → ((0 : Int) ≤ x5.toInt ∧ x5.toInt ≤ 4200) → (x3.toInt = 10 * p1.toInt + p2.toInt) → (0 ≤ (I0 (o + 26) x3.toNatClampNeg).toInt) → (TdN (I0 (o + 30)) (700 * p1.toNatClampNeg + (I0 (o + 26) x3.toNatClampNeg).toInt.toNat) x5.toInt x4.toInt) → (LnOK (I0 (o + 30)) (700 * p1.toNatClampNeg) (I0 (o + 26) x3.toNatClampNeg).toInt (I0 (o + 27) x3.toNatClampNeg).toInt 700) → (x1 = p1) → (MTd I o) → (I (o + 26) = I0 (o + 26)) → (I (o + 27) = I0 (o + 27)) → (I (o + 30) = I0 (o + 30)) → (4200 - x5.toInt).toNat < k → Ev (qGG D cA b E) mModel_told 4 (0, 0) 35 [(0, .ref o), (1, .int x1), (2, .int x2), (3, .int x3), (4, .int x4), (5, .int x5)] [] (n, sh, Rf, I, L) post := by
  intro k
  induction k with
  | zero =>
    intro x1 x2 x3 x4 x5 I L hR hf hi0 hi1 hi2 hi3 hi4 hi5 hi6 hi7 hi8 hi9 hi10 hi11 hm
    exact absurd hm (Nat.not_lt_zero _)
  | succ k ih =>
    intro x1 x2 x3 x4 x5 I L hR hf hi0 hi1 hi2 hi3 hi4 hi5 hi6 hi7 hi8 hi9 hi10 hi11 hm
    have hz0 := hi7.symm
    subst hz0
    refine sModel_told_35 o n sh Rf I L post p1 x2 x3 x4 x5 hok hw ?_
    unfold fModel_told_35
    have l_1 : (700 : Int32).toInt = 700 := rfl
    have a_2 : (700 * p1).toInt = 700 * p1.toInt := tMulL rfl (by omega) (by omega)
    refine ⟨tIn (by omega) (by omega), ?_⟩
    have g_3 : (0 : Int) ≤ (I (o + 27) (x3 : Int32).toNatClampNeg).toInt ∧ (I (o + 27) (x3 : Int32).toNatClampNeg).toInt ≤ 700 := hR.at ra 27 _ (by decide)
    have a_4 : ((700 * p1) + (I (o + 27) (x3 : Int32).toNatClampNeg)).toInt = (700 * p1).toInt + (I (o + 27) (x3 : Int32).toNatClampNeg).toInt := tAdd (by omega) (by omega)
    refine ⟨fun c_5 => ?_, fun c_5 => ?_⟩
    · have d_6 := iLe c_5
      have l_7 : (0 : Int32).toInt = 0 := rfl
      exact (hp _ _ _ hR hf  hi8)
    · have d_8 := iNle c_5
      have c1 := tCl (x := p1) (by omega)
      have r8 := hi10
      have f7 : (I (o + 27) x3.toNatClampNeg).toInt = (I0 (o + 27) x3.toNatClampNeg).toInt := by rw [r8]
      have c5 := tCl (x := x5) (by omega)
      obtain ⟨n2, ds, ss⟩ := TdN.st hi5 hi6 hi4 (x := x5.toNatClampNeg) (by omega) (by omega)
      have a0 := hi5.1
      refine ⟨tIn (by omega) (by omega), ?_⟩
      have l_9 : (126 : Int32).toInt = 126 := rfl
      refine ⟨fun c_10 => ?_, fun c_10 => ?_⟩
      · have d_11 := iNe c_10
        have l_12 : (97 : Int32).toInt = 97 := rfl
        refine ⟨fun c_13 => ?_, fun c_13 => ?_⟩
        · have d_14 := iLt c_13
          unfold fModel_told_111
          have l_15 : (78 : Int32).toInt = 78 := rfl
          refine ⟨fun c_16 => ?_, fun c_16 => ?_⟩
          · have d_17 := iEq c_16
            unfold fModel_told_125
            have sx := st2 ss (by rw [← hi11]; unfold isT; omega)
            refine ⟨tIn (by omega) (by omega), ?_⟩
            refine y_Model_term hok hw ra hR (fun r_18  => ⟨r_18, I, L, rfl, rfl, ?_⟩)
            refine ⟨tIn (by omega) (by omega), fun I_19 e_20 => ?_⟩
            have hR_21 : RI R I_19 := hR.up ra 34 (by decide) (Or.inl rfl) e_20 (i_lo _) (i_hi _)
            have hf_22 : Fm (fun c => c = o + 34) I0 I_19 := hf.set (by first | rfl | omega | (dsimp only; omega)) e_20
            have k_23 : MTd I_19 o := hi8.fr (by rw [← e_20]; exact q_u_ne (by omega)) (by rw [← e_20]; exact q_u_ne (by omega)) (by rw [← e_20]; exact q_u_ne (by omega))
            have w_24 : I_19 (o + 26) = I0 (o + 26) := by rw [← e_20, q_u_ne (by omega)]; exact hi9
            have w_25 : I_19 (o + 27) = I0 (o + 27) := by rw [← e_20, q_u_ne (by omega)]; exact hi10
            have w_26 : I_19 (o + 30) = I0 (o + 30) := by rw [← e_20, q_u_ne (by omega)]; exact hi11
            have a_28 : (x4 + Int32.ofInt 1).toInt = x4.toInt + (1) := tIc (by omega) (by omega) (by decide) (by decide)
            generalize ez_27 : (x4 + Int32.ofInt 1) = z_27 at a_28 ⊢
            unfold fModel_told_184
            have a_30 : (x5 + Int32.ofInt 1).toInt = x5.toInt + (1) := tIc (by omega) (by omega) (by decide) (by decide)
            generalize ez_29 : (x5 + Int32.ofInt 1) = z_29 at a_30 ⊢
            exact ih hR_21 hf_22 (by first | omega | (intro h; omega) | exact Or.inl rfl | exact Or.inr rfl) (by first | omega | (intro h; omega) | exact Or.inl rfl | exact Or.inr rfl) (by first | omega | (intro h; omega) | exact Or.inl rfl | exact Or.inr rfl) (by first | omega | (intro h; omega) | exact Or.inl rfl | exact Or.inr rfl) (by first | omega | (intro h; omega) | exact Or.inl rfl | exact Or.inr rfl) (by first | exact TdN.zero (by omega) (by omega) | exact TdN.nx (n := 0) ds (by omega) (by omega) (by omega)) (by first | exact hi6 | exact ln0) rfl k_23 w_24 w_25 w_26 (by omega)
          · have d_31 := iNe c_16
            have l_32 : (68 : Int32).toInt = 68 := rfl
            refine ⟨fun c_33 => ?_, fun c_33 => ?_⟩
            · have d_34 := iNe c_33
              have sx := st3 ss (by rw [← hi11]; omega) (by rw [← hi11]; unfold isT; omega)
              have a_36 : (x4 + Int32.ofInt (-1)).toInt = x4.toInt + (-1) := tIc (by omega) (by omega) (by decide) (by decide)
              generalize ez_35 : (x4 + Int32.ofInt (-1)) = z_35 at a_36 ⊢
              have l_37 : (1 : Int32).toInt = 1 := rfl
              have a_38 : (z_35 - 1).toInt = z_35.toInt - (1 : Int32).toInt := tSub (by omega) (by omega)
              have a_39 : (z_35 - 1).toInt = z_35.toInt - (1 : Int32).toInt := tSub (by omega) (by omega)
              refine ⟨tIn (by omega) (by omega), ?_⟩
              refine ⟨tIn (by omega) (by omega), ?_⟩
              refine y_Model_two hok hR (fun r_40  => ⟨r_40, I, L, rfl, rfl, ?_⟩)
              refine ⟨tIn (by omega) (by omega), fun I_41 e_42 => ?_⟩
              have hR_43 : RI R I_41 := hR.up ra 34 (by decide) (Or.inl rfl) e_42 (i_lo _) (i_hi _)
              have hf_44 : Fm (fun c => c = o + 34) I0 I_41 := hf.set (by first | rfl | omega | (dsimp only; omega)) e_42
              have k_45 : MTd I_41 o := hi8.fr (by rw [← e_42]; exact q_u_ne (by omega)) (by rw [← e_42]; exact q_u_ne (by omega)) (by rw [← e_42]; exact q_u_ne (by omega))
              have w_46 : I_41 (o + 26) = I0 (o + 26) := by rw [← e_42, q_u_ne (by omega)]; exact hi9
              have w_47 : I_41 (o + 27) = I0 (o + 27) := by rw [← e_42, q_u_ne (by omega)]; exact hi10
              have w_48 : I_41 (o + 30) = I0 (o + 30) := by rw [← e_42, q_u_ne (by omega)]; exact hi11
              unfold fModel_told_184
              have a_50 : (x5 + Int32.ofInt 1).toInt = x5.toInt + (1) := tIc (by omega) (by omega) (by decide) (by decide)
              generalize ez_49 : (x5 + Int32.ofInt 1) = z_49 at a_50 ⊢
              exact ih hR_43 hf_44 (by first | omega | (intro h; omega) | exact Or.inl rfl | exact Or.inr rfl) (by first | omega | (intro h; omega) | exact Or.inl rfl | exact Or.inr rfl) (by first | omega | (intro h; omega) | exact Or.inl rfl | exact Or.inr rfl) (by first | omega | (intro h; omega) | exact Or.inl rfl | exact Or.inr rfl) (by first | omega | (intro h; omega) | exact Or.inl rfl | exact Or.inr rfl) (by first | exact TdN.zero (by omega) (by omega) | exact TdN.nx (n := 0) ds (by omega) (by omega) (by omega)) (by first | exact hi6 | exact ln0) rfl k_45 w_46 w_47 w_48 (by omega)
            · have d_51 := iEq c_33
              unfold fModel_told_125
              have sx := st2 ss (by rw [← hi11]; unfold isT; omega)
              refine ⟨tIn (by omega) (by omega), ?_⟩
              refine y_Model_term hok hw ra hR (fun r_52  => ⟨r_52, I, L, rfl, rfl, ?_⟩)
              refine ⟨tIn (by omega) (by omega), fun I_53 e_54 => ?_⟩
              have hR_55 : RI R I_53 := hR.up ra 34 (by decide) (Or.inl rfl) e_54 (i_lo _) (i_hi _)
              have hf_56 : Fm (fun c => c = o + 34) I0 I_53 := hf.set (by first | rfl | omega | (dsimp only; omega)) e_54
              have k_57 : MTd I_53 o := hi8.fr (by rw [← e_54]; exact q_u_ne (by omega)) (by rw [← e_54]; exact q_u_ne (by omega)) (by rw [← e_54]; exact q_u_ne (by omega))
              have w_58 : I_53 (o + 26) = I0 (o + 26) := by rw [← e_54, q_u_ne (by omega)]; exact hi9
              have w_59 : I_53 (o + 27) = I0 (o + 27) := by rw [← e_54, q_u_ne (by omega)]; exact hi10
              have w_60 : I_53 (o + 30) = I0 (o + 30) := by rw [← e_54, q_u_ne (by omega)]; exact hi11
              have a_62 : (x4 + Int32.ofInt 1).toInt = x4.toInt + (1) := tIc (by omega) (by omega) (by decide) (by decide)
              generalize ez_61 : (x4 + Int32.ofInt 1) = z_61 at a_62 ⊢
              unfold fModel_told_184
              have a_64 : (x5 + Int32.ofInt 1).toInt = x5.toInt + (1) := tIc (by omega) (by omega) (by decide) (by decide)
              generalize ez_63 : (x5 + Int32.ofInt 1) = z_63 at a_64 ⊢
              exact ih hR_55 hf_56 (by first | omega | (intro h; omega) | exact Or.inl rfl | exact Or.inr rfl) (by first | omega | (intro h; omega) | exact Or.inl rfl | exact Or.inr rfl) (by first | omega | (intro h; omega) | exact Or.inl rfl | exact Or.inr rfl) (by first | omega | (intro h; omega) | exact Or.inl rfl | exact Or.inr rfl) (by first | omega | (intro h; omega) | exact Or.inl rfl | exact Or.inr rfl) (by first | exact TdN.zero (by omega) (by omega) | exact TdN.nx (n := 0) ds (by omega) (by omega) (by omega)) (by first | exact hi6 | exact ln0) rfl k_57 w_58 w_59 w_60 (by omega)
        · have d_65 := iNlt c_13
          have l_66 : (122 : Int32).toInt = 122 := rfl
          refine ⟨fun c_67 => ?_, fun c_67 => ?_⟩
          · have d_68 := iLe c_67
            unfold fModel_told_125
            have sx := st2 ss (by rw [← hi11]; unfold isT; omega)
            refine ⟨tIn (by omega) (by omega), ?_⟩
            refine y_Model_term hok hw ra hR (fun r_69  => ⟨r_69, I, L, rfl, rfl, ?_⟩)
            refine ⟨tIn (by omega) (by omega), fun I_70 e_71 => ?_⟩
            have hR_72 : RI R I_70 := hR.up ra 34 (by decide) (Or.inl rfl) e_71 (i_lo _) (i_hi _)
            have hf_73 : Fm (fun c => c = o + 34) I0 I_70 := hf.set (by first | rfl | omega | (dsimp only; omega)) e_71
            have k_74 : MTd I_70 o := hi8.fr (by rw [← e_71]; exact q_u_ne (by omega)) (by rw [← e_71]; exact q_u_ne (by omega)) (by rw [← e_71]; exact q_u_ne (by omega))
            have w_75 : I_70 (o + 26) = I0 (o + 26) := by rw [← e_71, q_u_ne (by omega)]; exact hi9
            have w_76 : I_70 (o + 27) = I0 (o + 27) := by rw [← e_71, q_u_ne (by omega)]; exact hi10
            have w_77 : I_70 (o + 30) = I0 (o + 30) := by rw [← e_71, q_u_ne (by omega)]; exact hi11
            have a_79 : (x4 + Int32.ofInt 1).toInt = x4.toInt + (1) := tIc (by omega) (by omega) (by decide) (by decide)
            generalize ez_78 : (x4 + Int32.ofInt 1) = z_78 at a_79 ⊢
            unfold fModel_told_184
            have a_81 : (x5 + Int32.ofInt 1).toInt = x5.toInt + (1) := tIc (by omega) (by omega) (by decide) (by decide)
            generalize ez_80 : (x5 + Int32.ofInt 1) = z_80 at a_81 ⊢
            exact ih hR_72 hf_73 (by first | omega | (intro h; omega) | exact Or.inl rfl | exact Or.inr rfl) (by first | omega | (intro h; omega) | exact Or.inl rfl | exact Or.inr rfl) (by first | omega | (intro h; omega) | exact Or.inl rfl | exact Or.inr rfl) (by first | omega | (intro h; omega) | exact Or.inl rfl | exact Or.inr rfl) (by first | omega | (intro h; omega) | exact Or.inl rfl | exact Or.inr rfl) (by first | exact TdN.zero (by omega) (by omega) | exact TdN.nx (n := 0) ds (by omega) (by omega) (by omega)) (by first | exact hi6 | exact ln0) rfl k_74 w_75 w_76 w_77 (by omega)
          · have d_82 := iNle c_67
            unfold fModel_told_111
            have l_83 : (78 : Int32).toInt = 78 := rfl
            refine ⟨fun c_84 => ?_, fun c_84 => ?_⟩
            · have d_85 := iEq c_84
              exfalso; omega
            · have d_86 := iNe c_84
              have l_87 : (68 : Int32).toInt = 68 := rfl
              refine ⟨fun c_88 => ?_, fun c_88 => ?_⟩
              · have d_89 := iNe c_88
                have sx := st3 ss (by rw [← hi11]; omega) (by rw [← hi11]; unfold isT; omega)
                have a_91 : (x4 + Int32.ofInt (-1)).toInt = x4.toInt + (-1) := tIc (by omega) (by omega) (by decide) (by decide)
                generalize ez_90 : (x4 + Int32.ofInt (-1)) = z_90 at a_91 ⊢
                have l_92 : (1 : Int32).toInt = 1 := rfl
                have a_93 : (z_90 - 1).toInt = z_90.toInt - (1 : Int32).toInt := tSub (by omega) (by omega)
                have a_94 : (z_90 - 1).toInt = z_90.toInt - (1 : Int32).toInt := tSub (by omega) (by omega)
                refine ⟨tIn (by omega) (by omega), ?_⟩
                refine ⟨tIn (by omega) (by omega), ?_⟩
                refine y_Model_two hok hR (fun r_95  => ⟨r_95, I, L, rfl, rfl, ?_⟩)
                refine ⟨tIn (by omega) (by omega), fun I_96 e_97 => ?_⟩
                have hR_98 : RI R I_96 := hR.up ra 34 (by decide) (Or.inl rfl) e_97 (i_lo _) (i_hi _)
                have hf_99 : Fm (fun c => c = o + 34) I0 I_96 := hf.set (by first | rfl | omega | (dsimp only; omega)) e_97
                have k_100 : MTd I_96 o := hi8.fr (by rw [← e_97]; exact q_u_ne (by omega)) (by rw [← e_97]; exact q_u_ne (by omega)) (by rw [← e_97]; exact q_u_ne (by omega))
                have w_101 : I_96 (o + 26) = I0 (o + 26) := by rw [← e_97, q_u_ne (by omega)]; exact hi9
                have w_102 : I_96 (o + 27) = I0 (o + 27) := by rw [← e_97, q_u_ne (by omega)]; exact hi10
                have w_103 : I_96 (o + 30) = I0 (o + 30) := by rw [← e_97, q_u_ne (by omega)]; exact hi11
                unfold fModel_told_184
                have a_105 : (x5 + Int32.ofInt 1).toInt = x5.toInt + (1) := tIc (by omega) (by omega) (by decide) (by decide)
                generalize ez_104 : (x5 + Int32.ofInt 1) = z_104 at a_105 ⊢
                exact ih hR_98 hf_99 (by first | omega | (intro h; omega) | exact Or.inl rfl | exact Or.inr rfl) (by first | omega | (intro h; omega) | exact Or.inl rfl | exact Or.inr rfl) (by first | omega | (intro h; omega) | exact Or.inl rfl | exact Or.inr rfl) (by first | omega | (intro h; omega) | exact Or.inl rfl | exact Or.inr rfl) (by first | omega | (intro h; omega) | exact Or.inl rfl | exact Or.inr rfl) (by first | exact TdN.zero (by omega) (by omega) | exact TdN.nx (n := 0) ds (by omega) (by omega) (by omega)) (by first | exact hi6 | exact ln0) rfl k_100 w_101 w_102 w_103 (by omega)
              · have d_106 := iEq c_88
                exfalso; omega
      · have d_107 := iEq c_10
        have sx := st1 ss (by rw [← hi11]; omega)
        have l_108 : (1 : Int32).toInt = 1 := rfl
        have a_109 : (x4 - 1).toInt = x4.toInt - (1 : Int32).toInt := tSub (by omega) (by omega)
        have a_110 : (x4 - 1).toInt = x4.toInt - (1 : Int32).toInt := tSub (by omega) (by omega)
        refine ⟨tIn (by omega) (by omega), ?_⟩
        have l_111 : (0 : Int32).toInt = 0 := rfl
        refine ⟨fun c_112 => ?_, fun c_112 => ?_⟩
        · have d_113 := iNe c_112
          unfold fModel_told_93
          refine ⟨tIn (by omega) (by omega), fun I_114 e_115 => ?_⟩
          have hR_116 : RI R I_114 := hR.up ra 34 (by decide) (Or.inl rfl) e_115 (i_lo _) (i_hi _)
          have hf_117 : Fm (fun c => c = o + 34) I0 I_114 := hf.set (by first | rfl | omega | (dsimp only; omega)) e_115
          have k_118 : MTd I_114 o := hi8.fr (by rw [← e_115]; exact q_u_ne (by omega)) (by rw [← e_115]; exact q_u_ne (by omega)) (by rw [← e_115]; exact q_u_ne (by omega))
          have w_119 : I_114 (o + 26) = I0 (o + 26) := by rw [← e_115, q_u_ne (by omega)]; exact hi9
          have w_120 : I_114 (o + 27) = I0 (o + 27) := by rw [← e_115, q_u_ne (by omega)]; exact hi10
          have w_121 : I_114 (o + 30) = I0 (o + 30) := by rw [← e_115, q_u_ne (by omega)]; exact hi11
          unfold fModel_told_184
          have a_123 : (x5 + Int32.ofInt 1).toInt = x5.toInt + (1) := tIc (by omega) (by omega) (by decide) (by decide)
          generalize ez_122 : (x5 + Int32.ofInt 1) = z_122 at a_123 ⊢
          exact ih hR_116 hf_117 (by first | omega | (intro h; omega) | exact Or.inl rfl | exact Or.inr rfl) (by first | omega | (intro h; omega) | exact Or.inl rfl | exact Or.inr rfl) (by first | omega | (intro h; omega) | exact Or.inl rfl | exact Or.inr rfl) (by first | omega | (intro h; omega) | exact Or.inl rfl | exact Or.inr rfl) (by first | omega | (intro h; omega) | exact Or.inl rfl | exact Or.inr rfl) (by first | exact TdN.zero (by omega) (by omega) | exact TdN.nx (n := 0) ds (by omega) (by omega) (by omega)) (by first | exact hi6 | exact ln0) rfl k_118 w_119 w_120 w_121 (by omega)
        · have d_124 := iEq c_112
          unfold fModel_told_93
          refine ⟨tIn (by omega) (by omega), fun I_125 e_126 => ?_⟩
          have hR_127 : RI R I_125 := hR.up ra 34 (by decide) (Or.inl rfl) e_126 (i_lo _) (i_hi _)
          have hf_128 : Fm (fun c => c = o + 34) I0 I_125 := hf.set (by first | rfl | omega | (dsimp only; omega)) e_126
          have k_129 : MTd I_125 o := hi8.fr (by rw [← e_126]; exact q_u_ne (by omega)) (by rw [← e_126]; exact q_u_ne (by omega)) (by rw [← e_126]; exact q_u_ne (by omega))
          have w_130 : I_125 (o + 26) = I0 (o + 26) := by rw [← e_126, q_u_ne (by omega)]; exact hi9
          have w_131 : I_125 (o + 27) = I0 (o + 27) := by rw [← e_126, q_u_ne (by omega)]; exact hi10
          have w_132 : I_125 (o + 30) = I0 (o + 30) := by rw [← e_126, q_u_ne (by omega)]; exact hi11
          unfold fModel_told_184
          have a_134 : (x5 + Int32.ofInt 1).toInt = x5.toInt + (1) := tIc (by omega) (by omega) (by decide) (by decide)
          generalize ez_133 : (x5 + Int32.ofInt 1) = z_133 at a_134 ⊢
          exact ih hR_127 hf_128 (by first | omega | (intro h; omega) | exact Or.inl rfl | exact Or.inr rfl) (by first | omega | (intro h; omega) | exact Or.inl rfl | exact Or.inr rfl) (by first | omega | (intro h; omega) | exact Or.inl rfl | exact Or.inr rfl) (by first | omega | (intro h; omega) | exact Or.inl rfl | exact Or.inr rfl) (by first | omega | (intro h; omega) | exact Or.inl rfl | exact Or.inr rfl) (by first | exact TdN.zero (by omega) (by omega) | exact TdN.nx (n := 0) ds (by omega) (by omega) (by omega)) (by first | exact hi6 | exact ln0) rfl k_129 w_130 w_131 w_132 (by omega)
set_option maxHeartbeats 4000000 in
set_option maxRecDepth 20000 in
theorem yc_Model_told {D : va_G} {cA : FieldType → ClassId} {b : Nat} {E : State → Prop} {R : qRg} {o n : Nat} {sh : Nat → qC} {Rf : Nat → Nat → Option Nat} {I0 : Nat → Nat → Int32} {L0 : Nat → Nat → Int64} {post : Option Value → qS → Prop} {p1 : Int32} {p2 : Int32} (hok : q_ok (qGG D cA b E)) (hw : WfModel (qGG D cA b E) n sh Rf o) (ra : RAModel R o) (hZ : Fz R I0 o wModel_told) (hR0 : RI R I0) (hq0 : (0 : Int) ≤ p1.toInt ∧ p1.toInt ≤ 5) (hq1 : (0 : Int) ≤ p2.toInt ∧ p2.toInt ≤ 9) (hq2 : p1.toInt ≠ 4) (hq3 : MTd I0 o) (hR : RI R I0) (hp : ∀ (r : Int32) (I' : Nat → Nat → Int32) (L' : Nat → Nat → Int64), RI R I' → Fm (fun c => c = o + 34) I0 I' → (MTd I' o) → post (some (.int r)) (n, sh, Rf, I', L')) : Ev (qGG D cA b E) mModel_told 4 (0, 0) 0 (lv_args 0 [.ref o, .int p1, .int p2]) [] (n, sh, Rf, I0, L0) post := by
  have hf : Fm (fun c => c = o + 34) I0 I0 := Fm.rf
  refine sModel_told_0 o n sh Rf I0 L0 post p1 p2 hok hw ?_
  unfold fModel_told_0
  have l_135 : (10 : Int32).toInt = 10 := rfl
  have a_136 : (10 * p1).toInt = 10 * p1.toInt := tMulL rfl (by omega) (by omega)
  have a_137 : ((10 * p1) + p2).toInt = (10 * p1).toInt + p2.toInt := tAdd (by omega) (by omega)
  refine ⟨tIn (by omega) (by omega), ?_⟩
  have g_138 : (-1 : Int) ≤ (I0 (o + 26) (((10 * p1) + p2) : Int32).toNatClampNeg).toInt ∧ (I0 (o + 26) (((10 * p1) + p2) : Int32).toNatClampNeg).toInt ≤ 700 := hR.at ra 26 _ (by decide)
  have l_139 : (0 : Int32).toInt = 0 := rfl
  refine ⟨fun c_140 => ?_, fun c_140 => ?_⟩
  · have d_141 := iLe c_140
    have c1 := tCl (x := p1) (by omega)
    have c2 := tCl (x := p2) (by omega)
    have c3 := tCl (x := (10 * p1) + p2) (by omega)
    have ln0 := hq3 p1.toNatClampNeg (by omega) (by omega) p2.toNatClampNeg (by omega)
    rw [show 10 * p1.toNatClampNeg + p2.toNatClampNeg = ((10 * p1) + p2).toNatClampNeg by omega] at ln0
    have l_142 : (700 : Int32).toInt = 700 := rfl
    have a_143 : (700 * p1).toInt = 700 * p1.toInt := tMulL rfl (by omega) (by omega)
    refine ⟨tIn (by omega) (by omega), ?_⟩
    have g_144 : (-1 : Int) ≤ (I0 (o + 26) (((10 * p1) + p2) : Int32).toNatClampNeg).toInt ∧ (I0 (o + 26) (((10 * p1) + p2) : Int32).toNatClampNeg).toInt ≤ 700 := hR.at ra 26 _ (by decide)
    have a_145 : ((700 * p1) + (I0 (o + 26) (((10 * p1) + p2) : Int32).toNatClampNeg)).toInt = (700 * p1).toInt + (I0 (o + 26) (((10 * p1) + p2) : Int32).toNatClampNeg).toInt := tAdd (by omega) (by omega)
    exact yModel_told_35 (I0 := I0) (L0 := L0) (p1 := p1) (p2 := p2) hok hw ra hZ hR0 hq0 hq1 hq2 hq3 hp  _ hR hf (by first | omega | (intro h; omega) | exact Or.inl rfl | exact Or.inr rfl) (by first | omega | (intro h; omega) | exact Or.inl rfl | exact Or.inr rfl) (by first | omega | (intro h; omega) | exact Or.inl rfl | exact Or.inr rfl) (by first | omega | (intro h; omega) | exact Or.inl rfl | exact Or.inr rfl) (by first | omega | (intro h; omega) | exact Or.inl rfl | exact Or.inr rfl) (by first | exact TdN.zero (by omega) (by omega) | exact TdN.nx (n := 0) ds (by omega) (by omega) (by omega)) (by first | exact hi6 | exact ln0) rfl hq3 rfl rfl rfl (Nat.lt_succ_self _)
  · have d_146 := iNle c_140
    exact (hp _ _ _ hR hf  hq3)
theorem y_Model_told {D : va_G} {cA : FieldType → ClassId} {b : Nat} {E : State → Prop} {R : qRg} {o n : Nat} {sh : Nat → qC} {Rf : Nat → Nat → Option Nat} {I0 : Nat → Nat → Int32} {L0 : Nat → Nat → Int64} {post : Option Value → qS → Prop} {p1 : Int32} {p2 : Int32} (hok : q_ok (qGG D cA b E)) (hw : WfModel (qGG D cA b E) n sh Rf o) (ra : RAModel R o) (hq0 : (0 : Int) ≤ p1.toInt ∧ p1.toInt ≤ 5) (hq1 : (0 : Int) ≤ p2.toInt ∧ p2.toInt ≤ 9) (hq2 : p1.toInt ≠ 4) (hq3 : MTd I0 o) (hR : RI R I0) (hp : ∀ (r : Int32) (I' : Nat → Nat → Int32) (L' : Nat → Nat → Int64), RI R I' → Fm (fun c => c = o + 34) I0 I' → Kp wModel_told I0 I' o → (MTd I' o) → post (some (.int r)) (n, sh, Rf, I', L')) : Ev (qGG D cA b E) mModel_told 4 (0, 0) 0 (lv_args 0 [.ref o, .int p1, .int p2]) [] (n, sh, Rf, I0, L0) post :=
  yc_Model_told (R := fzR R I0 o wModel_told) hok hw (fzA ra hR _) fzZ (fzI hR) hq0 hq1 hq2 hq3 (fzI hR) (fun r I' L' h1 h2 u0 => hp r I' L' (fzB hR h1) h2 (fzP h1) u0)
