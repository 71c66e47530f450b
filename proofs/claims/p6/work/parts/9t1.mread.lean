/-! TOKENS, next. By program (mspec.py). -/
def wModel_next : Nat → Bool := fun j => Nat.beq j 16 || Nat.beq j 17 || Nat.beq j 18 || Nat.beq j 19 || false
set_option maxHeartbeats 4000000 in
set_option maxRecDepth 20000 in
theorem yModel_next_363 {D : va_G} {cA : FieldType → ClassId} {b : Nat} {E : State → Prop} {R : qRg} {o n : Nat} {sh : Nat → qC} {Rf : Nat → Nat → Option Nat} {I0 : Nat → Nat → Int32} {L0 : Nat → Nat → Int64} {post : Option Value → qS → Prop} (hok : q_ok (qGG D cA b E)) (hw : WfModel (qGG D cA b E) n sh Rf o) (ra : RAModel R o) (hz16 : R.2 16 = true) (hz17 : R.2 17 = true) (hz18 : R.2 18 = true) (hz19 : R.2 19 = true) (hZ : Fz R I0 o wModel_next) (hR0 : RI R I0) (hq0 : (I0 o 7).toInt ≤ (I0 o 3).toInt) (hp : ∀ (I' : Nat → Nat → Int32) (L' : Nat → Nat → Int64), RI R I' → Fm (fun c => c = o) I0 I' → ((I' o 7).toInt ≤ (I' o 3).toInt) → ((I0 o 7).toInt ≤ (I' o 7).toInt) → (7 * (I0 o 7).toInt - (I0 o 8).toInt + (I0 o 4).toInt ≤ 7 * (I' o 7).toInt - (I' o 8).toInt + (I' o 4).toInt) → (Im ((I0 o 8).toInt ≠ 0) (7 * (I0 o 7).toInt - (I0 o 8).toInt + (I0 o 4).toInt < 7 * (I' o 7).toInt - (I' o 8).toInt + (I' o 4).toInt)) → ((I0 o 7).toInt ≤ (I' o 6).toInt) → ((I' o 6).toInt ≤ (I' o 3).toInt) → (MPo I' o) → (MTk I' o) → post none (n, sh, Rf, I', L')) : ∀ (k : Nat) {x1 : Int32} {I : Nat → Nat → Int32} {L : Nat → Nat → Int64}, RI R I → Fm (fun c => c = o) I0 I → ((I0 o 7).toInt ≤ (I o 6).toInt) → ((I o 6).toInt ≤ (I o 7).toInt) → (48 ≤ (sgF (I0 (o + 2)) (I0 o 3) (I o 6)).toInt) → ((sgF (I0 (o + 2)) (I0 o 3) (I o 6)).toInt ≤ 57) → ((I o 7).toInt ≤ (I o 3).toInt) → (1600 - (I o 7).toInt).toNat < k → Ev (qGG D cA b E) mModel_next 2 (0, 0) 363 [(0, .ref o), (1, .int x1)] [] (n, sh, Rf, I, L) post := by
  intro k
  induction k with
  | zero =>
    intro x1 I L hR hf hi0 hi1 hi2 hi3 hi4 hm
    exact absurd hm (Nat.not_lt_zero _)
  | succ k ih =>
    intro x1 I L hR hf hi0 hi1 hi2 hi3 hi4 hm
    have g_1 : (0 : Int) ≤ (I o 3).toInt ∧ (I o 3).toInt ≤ 1600 := hR.at0 ra 3 (by decide)
    have z_2 : (I o 3).toInt = (I0 o 3).toInt := by rw [hZ I 3 rfl hR]
    have g_3 : (0 : Int) ≤ (I o 4).toInt ∧ (I o 4).toInt ≤ 5 := hR.at0 ra 4 (by decide)
    have z_4 : (I o 4).toInt = (I0 o 4).toInt := by rw [hZ I 4 rfl hR]
    have g_5 : (0 : Int) ≤ (I o 6).toInt ∧ (I o 6).toInt ≤ 1600 := hR.at0 ra 6 (by decide)
    have g_6 : (0 : Int) ≤ (I0 o 6).toInt ∧ (I0 o 6).toInt ≤ 1600 := hR0.at0 ra 6 (by decide)
    have g_7 : (0 : Int) ≤ (I o 7).toInt ∧ (I o 7).toInt ≤ 1601 := hR.at0 ra 7 (by decide)
    have g_8 : (0 : Int) ≤ (I0 o 7).toInt ∧ (I0 o 7).toInt ≤ 1601 := hR0.at0 ra 7 (by decide)
    have g_9 : (0 : Int) ≤ (I o 8).toInt ∧ (I o 8).toInt ≤ 6 := hR.at0 ra 8 (by decide)
    have g_10 : (0 : Int) ≤ (I0 o 8).toInt ∧ (I0 o 8).toInt ≤ 6 := hR0.at0 ra 8 (by decide)
    refine sModel_next_363 o n sh Rf I L post x1 hok hw ?_
    unfold fModel_next_363
    have g_11 : (0 : Int) ≤ (I o 7).toInt ∧ (I o 7).toInt ≤ 1601 := hR.at0 ra 7 (by decide)
    refine y_Model_sign hok hw ra (by first | omega | (intro h; omega) | exact Or.inl rfl | exact Or.inr rfl) hR (fun r_12 u_13 u_14 => ⟨r_12, I, L, rfl, rfl, ?_⟩)
    refine y_Model_isDigit hok hR (fun r_15 u_16 u_17 u_18 => ⟨r_15, I, L, rfl, rfl, ?_⟩)
    have b_19 : 0 ≤ r_15.toInt ∧ r_15.toInt ≤ 1 := u_16.rg
    have l_20 : (0 : Int32).toInt = 0 := rfl
    refine ⟨fun c_21 => ?_, fun c_21 => ?_⟩
    · have d_22 := iEq c_21
      have se := u_14
      rw [hf (o + 2) (by first | omega | (dsimp only; omega)), show I o 3 = I0 o 3 from Int32.toInt_inj.mp (by omega)] at se
      have ex : (I o 6).toInt ≠ (I o 7).toInt := fun h => by rw [← Int32.toInt_inj.mp h] at se; have a := u_18 (by omega); have b := iEq se; omega
      have g_23 : (0 : Int) ≤ (I o 7).toInt ∧ (I o 7).toInt ≤ 1601 := hR.at0 ra 7 (by decide)
      have g_24 : (0 : Int) ≤ (I o 6).toInt ∧ (I o 6).toInt ≤ 1600 := hR.at0 ra 6 (by decide)
      have a_25 : ((I o 7) - (I o 6)).toInt = (I o 7).toInt - (I o 6).toInt := tSub (by omega) (by omega)
      have l_26 : (4 : Int32).toInt = 4 := rfl
      refine ⟨fun c_27 => ?_, fun c_27 => ?_⟩
      · have d_28 := iLt c_27
        unfold fModel_next_454
        unfold fModel_next_459
        have l_29 : (1 : Int32).toInt = 1 := rfl
        refine fun I_30 e_31 => ?_
        have hR_32 : RI R I_30 := hR.up0 (k := 8) ra (by decide) (Or.inr hz18) e_31 (show (0 : Int) ≤ (1 : Int32).toInt by omega) (show (1 : Int32).toInt ≤ (6 : Int) by omega)
        have hf_33 : Fm (fun c => c = o) I0 I_30 := hf.set (by first | rfl | omega | (dsimp only; omega)) e_31
        have t_34 : (I_30 o 3).toInt = (I o 3).toInt := by rw [← e_31, q_u_k (by decide)]
        have t_35 : (I_30 o 4).toInt = (I o 4).toInt := by rw [← e_31, q_u_k (by decide)]
        have t_36 : (I_30 o 6).toInt = (I o 6).toInt := by rw [← e_31, q_u_k (by decide)]
        have t_37 : (I_30 o 7).toInt = (I o 7).toInt := by rw [← e_31, q_u_k (by decide)]
        have t_38 : (I_30 o 8).toInt = (1 : Int32).toInt := by rw [← e_31, q_u_at]
        have t_39 : (I_30 o 9).toInt = (I o 9).toInt := by rw [← e_31, q_u_k (by decide)]
        exact (hp _ _ hR_32 hf_33 (by first | omega | (intro h; omega) | exact Or.inl rfl | exact Or.inr rfl) (by first | omega | (intro h; omega) | exact Or.inl rfl | exact Or.inr rfl) (by first | omega | (intro h; omega) | exact Or.inl rfl | exact Or.inr rfl) (by intro _; omega) (by first | omega | (intro h; omega) | exact Or.inl rfl | exact Or.inr rfl) (by first | omega | (intro h; omega) | exact Or.inl rfl | exact Or.inr rfl) (by intro h; omega) (by unfold MTk; refine ⟨by omega, fun h => by omega⟩))
      · have d_40 := iNlt c_27
        have g_41 : (0 : Int) ≤ (I o 7).toInt ∧ (I o 7).toInt ≤ 1601 := hR.at0 ra 7 (by decide)
        refine y_Model_sign hok hw ra (by first | omega | (intro h; omega) | exact Or.inl rfl | exact Or.inr rfl) hR (fun r_42 u_43 u_44 => ⟨r_42, I, L, rfl, rfl, ?_⟩)
        refine y_Model_isLetter hok hR (fun r_45 u_46 u_47 => ⟨r_45, I, L, rfl, rfl, ?_⟩)
        have b_48 : 0 ≤ r_45.toInt ∧ r_45.toInt ≤ 1 := u_46.rg
        refine ⟨fun c_49 => ?_, fun c_49 => ?_⟩
        · have d_50 := iEq c_49
          unfold fModel_next_459
          refine fun I_51 e_52 => ?_
          have hR_53 : RI R I_51 := hR.up0 (k := 8) ra (by decide) (Or.inr hz18) e_52 (show (0 : Int) ≤ (4 : Int32).toInt by omega) (show (4 : Int32).toInt ≤ (6 : Int) by omega)
          have hf_54 : Fm (fun c => c = o) I0 I_51 := hf.set (by first | rfl | omega | (dsimp only; omega)) e_52
          have t_55 : (I_51 o 3).toInt = (I o 3).toInt := by rw [← e_52, q_u_k (by decide)]
          have t_56 : (I_51 o 4).toInt = (I o 4).toInt := by rw [← e_52, q_u_k (by decide)]
          have t_57 : (I_51 o 6).toInt = (I o 6).toInt := by rw [← e_52, q_u_k (by decide)]
          have t_58 : (I_51 o 7).toInt = (I o 7).toInt := by rw [← e_52, q_u_k (by decide)]
          have t_59 : (I_51 o 8).toInt = (4 : Int32).toInt := by rw [← e_52, q_u_at]
          have t_60 : (I_51 o 9).toInt = (I o 9).toInt := by rw [← e_52, q_u_k (by decide)]
          exact (hp _ _ hR_53 hf_54 (by first | omega | (intro h; omega) | exact Or.inl rfl | exact Or.inr rfl) (by first | omega | (intro h; omega) | exact Or.inl rfl | exact Or.inr rfl) (by first | omega | (intro h; omega) | exact Or.inl rfl | exact Or.inr rfl) (by intro _; omega) (by first | omega | (intro h; omega) | exact Or.inl rfl | exact Or.inr rfl) (by first | omega | (intro h; omega) | exact Or.inl rfl | exact Or.inr rfl) (by intro h; omega) (by unfold MTk; refine ⟨by omega, fun h => by omega⟩))
        · have d_61 := iNe c_49
          unfold fModel_next_454
          unfold fModel_next_459
          have l_62 : (1 : Int32).toInt = 1 := rfl
          refine fun I_63 e_64 => ?_
          have hR_65 : RI R I_63 := hR.up0 (k := 8) ra (by decide) (Or.inr hz18) e_64 (show (0 : Int) ≤ (1 : Int32).toInt by omega) (show (1 : Int32).toInt ≤ (6 : Int) by omega)
          have hf_66 : Fm (fun c => c = o) I0 I_63 := hf.set (by first | rfl | omega | (dsimp only; omega)) e_64
          have t_67 : (I_63 o 3).toInt = (I o 3).toInt := by rw [← e_64, q_u_k (by decide)]
          have t_68 : (I_63 o 4).toInt = (I o 4).toInt := by rw [← e_64, q_u_k (by decide)]
          have t_69 : (I_63 o 6).toInt = (I o 6).toInt := by rw [← e_64, q_u_k (by decide)]
          have t_70 : (I_63 o 7).toInt = (I o 7).toInt := by rw [← e_64, q_u_k (by decide)]
          have t_71 : (I_63 o 8).toInt = (1 : Int32).toInt := by rw [← e_64, q_u_at]
          have t_72 : (I_63 o 9).toInt = (I o 9).toInt := by rw [← e_64, q_u_k (by decide)]
          exact (hp _ _ hR_65 hf_66 (by first | omega | (intro h; omega) | exact Or.inl rfl | exact Or.inr rfl) (by first | omega | (intro h; omega) | exact Or.inl rfl | exact Or.inr rfl) (by first | omega | (intro h; omega) | exact Or.inl rfl | exact Or.inr rfl) (by intro _; omega) (by first | omega | (intro h; omega) | exact Or.inl rfl | exact Or.inr rfl) (by first | omega | (intro h; omega) | exact Or.inl rfl | exact Or.inr rfl) (by intro h; omega) (by unfold MTk; refine ⟨by omega, fun h => by omega⟩))
    · have d_73 := iNe c_21
      have dl := u_13 (by have := u_17 (by omega); omega)
      have g_74 : (0 : Int) ≤ (I o 7).toInt ∧ (I o 7).toInt ≤ 1601 := hR.at0 ra 7 (by decide)
      have g_75 : (0 : Int) ≤ (I o 6).toInt ∧ (I o 6).toInt ≤ 1600 := hR.at0 ra 6 (by decide)
      have a_76 : ((I o 7) - (I o 6)).toInt = (I o 7).toInt - (I o 6).toInt := tSub (by omega) (by omega)
      have l_77 : (4 : Int32).toInt = 4 := rfl
      refine ⟨fun c_78 => ?_, fun c_78 => ?_⟩
      · have d_79 := iLe c_78
        unfold fModel_next_413
        have g_80 : (0 : Int) ≤ (I o 7).toInt ∧ (I o 7).toInt ≤ 1601 := hR.at0 ra 7 (by decide)
        have l_81 : (1 : Int32).toInt = 1 := rfl
        have a_82 : ((I o 7) + 1).toInt = (I o 7).toInt + (1 : Int32).toInt := tAdd (by omega) (by omega)
        refine fun I_83 e_84 => ?_
        have hR_85 : RI R I_83 := hR.up0 (k := 7) ra (by decide) (Or.inr hz17) e_84 (show (0 : Int) ≤ ((I o 7) + 1).toInt by omega) (show ((I o 7) + 1).toInt ≤ (1601 : Int) by omega)
        have hf_86 : Fm (fun c => c = o) I0 I_83 := hf.set (by first | rfl | omega | (dsimp only; omega)) e_84
        have t_87 : (I_83 o 3).toInt = (I o 3).toInt := by rw [← e_84, q_u_k (by decide)]
        have t_88 : (I_83 o 4).toInt = (I o 4).toInt := by rw [← e_84, q_u_k (by decide)]
        have t_89 : (I_83 o 6).toInt = (I o 6).toInt := by rw [← e_84, q_u_k (by decide)]
        have t_90 : (I_83 o 7).toInt = ((I o 7) + 1).toInt := by rw [← e_84, q_u_at]
        have t_91 : (I_83 o 8).toInt = (I o 8).toInt := by rw [← e_84, q_u_k (by decide)]
        have t_92 : (I_83 o 9).toInt = (I o 9).toInt := by rw [← e_84, q_u_k (by decide)]
        exact ih hR_85 hf_86 (by first | omega | (intro h; omega) | exact Or.inl rfl | exact Or.inr rfl) (by first | omega | (intro h; omega) | exact Or.inl rfl | exact Or.inr rfl) (by first | exact sgLo sc (by omega) (by omega) | exact sgLo (a := I o 6) rfl (by omega) (by omega)) (by first | exact sgHi sc (by omega) (by omega) | exact sgHi (a := I o 6) rfl (by omega) (by omega)) (by first | omega | (intro h; omega) | exact Or.inl rfl | exact Or.inr rfl) (by omega)
      · have d_93 := iNle c_78
        have g_94 : (0 : Int) ≤ (I o 7).toInt ∧ (I o 7).toInt ≤ 1601 := hR.at0 ra 7 (by decide)
        refine y_Model_sign hok hw ra (by first | omega | (intro h; omega) | exact Or.inl rfl | exact Or.inr rfl) hR (fun r_95 u_96 u_97 => ⟨r_95, I, L, rfl, rfl, ?_⟩)
        refine fun I_98 e_99 => ?_
        have hR_100 : RI R I_98 := hR.up0 (k := 9) ra (by decide) (Or.inr hz19) e_99 (i_lo _) (i_hi _)
        have hf_101 : Fm (fun c => c = o) I0 I_98 := hf.set (by first | rfl | omega | (dsimp only; omega)) e_99
        have t_102 : (I_98 o 3).toInt = (I o 3).toInt := by rw [← e_99, q_u_k (by decide)]
        have t_103 : (I_98 o 4).toInt = (I o 4).toInt := by rw [← e_99, q_u_k (by decide)]
        have t_104 : (I_98 o 6).toInt = (I o 6).toInt := by rw [← e_99, q_u_k (by decide)]
        have t_105 : (I_98 o 7).toInt = (I o 7).toInt := by rw [← e_99, q_u_k (by decide)]
        have t_106 : (I_98 o 8).toInt = (I o 8).toInt := by rw [← e_99, q_u_k (by decide)]
        have t_107 : (I_98 o 9).toInt = (((10 * (I o 9)) + r_95) - 48).toInt := by rw [← e_99, q_u_at]
        unfold fModel_next_413
        have g_108 : (0 : Int) ≤ (I_98 o 7).toInt ∧ (I_98 o 7).toInt ≤ 1601 := hR_100.at0 ra 7 (by decide)
        have l_109 : (1 : Int32).toInt = 1 := rfl
        have a_110 : ((I_98 o 7) + 1).toInt = (I_98 o 7).toInt + (1 : Int32).toInt := tAdd (by omega) (by omega)
        refine fun I_111 e_112 => ?_
        have hR_113 : RI R I_111 := hR_100.up0 (k := 7) ra (by decide) (Or.inr hz17) e_112 (show (0 : Int) ≤ ((I_98 o 7) + 1).toInt by omega) (show ((I_98 o 7) + 1).toInt ≤ (1601 : Int) by omega)
        have hf_114 : Fm (fun c => c = o) I0 I_111 := hf_101.set (by first | rfl | omega | (dsimp only; omega)) e_112
        have t_115 : (I_111 o 3).toInt = (I_98 o 3).toInt := by rw [← e_112, q_u_k (by decide)]
        have t_116 : (I_111 o 4).toInt = (I_98 o 4).toInt := by rw [← e_112, q_u_k (by decide)]
        have t_117 : (I_111 o 6).toInt = (I_98 o 6).toInt := by rw [← e_112, q_u_k (by decide)]
        have t_118 : (I_111 o 7).toInt = ((I_98 o 7) + 1).toInt := by rw [← e_112, q_u_at]
        have t_119 : (I_111 o 8).toInt = (I_98 o 8).toInt := by rw [← e_112, q_u_k (by decide)]
        have t_120 : (I_111 o 9).toInt = (I_98 o 9).toInt := by rw [← e_112, q_u_k (by decide)]
        exact ih hR_113 hf_114 (by first | omega | (intro h; omega) | exact Or.inl rfl | exact Or.inr rfl) (by first | omega | (intro h; omega) | exact Or.inl rfl | exact Or.inr rfl) (by first | exact sgLo sc (by omega) (by omega) | exact sgLo (a := I o 6) rfl (by omega) (by omega)) (by first | exact sgHi sc (by omega) (by omega) | exact sgHi (a := I o 6) rfl (by omega) (by omega)) (by first | omega | (intro h; omega) | exact Or.inl rfl | exact Or.inr rfl) (by omega)
set_option maxHeartbeats 4000000 in
set_option maxRecDepth 20000 in
theorem yModel_next_260 {D : va_G} {cA : FieldType → ClassId} {b : Nat} {E : State → Prop} {R : qRg} {o n : Nat} {sh : Nat → qC} {Rf : Nat → Nat → Option Nat} {I0 : Nat → Nat → Int32} {L0 : Nat → Nat → Int64} {post : Option Value → qS → Prop} (hok : q_ok (qGG D cA b E)) (hw : WfModel (qGG D cA b E) n sh Rf o) (ra : RAModel R o) (hz16 : R.2 16 = true) (hz17 : R.2 17 = true) (hz18 : R.2 18 = true) (hz19 : R.2 19 = true) (hZ : Fz R I0 o wModel_next) (hR0 : RI R I0) (hq0 : (I0 o 7).toInt ≤ (I0 o 3).toInt) (hp : ∀ (I' : Nat → Nat → Int32) (L' : Nat → Nat → Int64), RI R I' → Fm (fun c => c = o) I0 I' → ((I' o 7).toInt ≤ (I' o 3).toInt) → ((I0 o 7).toInt ≤ (I' o 7).toInt) → (7 * (I0 o 7).toInt - (I0 o 8).toInt + (I0 o 4).toInt ≤ 7 * (I' o 7).toInt - (I' o 8).toInt + (I' o 4).toInt) → (Im ((I0 o 8).toInt ≠ 0) (7 * (I0 o 7).toInt - (I0 o 8).toInt + (I0 o 4).toInt < 7 * (I' o 7).toInt - (I' o 8).toInt + (I' o 4).toInt)) → ((I0 o 7).toInt ≤ (I' o 6).toInt) → ((I' o 6).toInt ≤ (I' o 3).toInt) → (MPo I' o) → (MTk I' o) → post none (n, sh, Rf, I', L')) : ∀ (k : Nat) {x1 : Int32} {x2 : Int32} {I : Nat → Nat → Int32} {L : Nat → Nat → Int64}, RI R I → Fm (fun c => c = o) I0 I → ((0 : Int) ≤ x2.toInt ∧ x2.toInt ≤ 1601) → ((I0 o 7).toInt ≤ (I o 6).toInt) → ((I o 6).toInt < (I o 7).toInt) → ((I o 7).toInt ≤ (I o 3).toInt) → (1601 - x2.toInt).toNat < k → Ev (qGG D cA b E) mModel_next 2 (0, 0) 260 [(0, .ref o), (1, .int x1), (2, .int x2)] [] (n, sh, Rf, I, L) post := by
  intro k
  induction k with
  | zero =>
    intro x1 x2 I L hR hf hi0 hi1 hi2 hi3 hm
    exact absurd hm (Nat.not_lt_zero _)
  | succ k ih =>
    intro x1 x2 I L hR hf hi0 hi1 hi2 hi3 hm
    have g_121 : (0 : Int) ≤ (I o 3).toInt ∧ (I o 3).toInt ≤ 1600 := hR.at0 ra 3 (by decide)
    have z_122 : (I o 3).toInt = (I0 o 3).toInt := by rw [hZ I 3 rfl hR]
    have g_123 : (0 : Int) ≤ (I o 4).toInt ∧ (I o 4).toInt ≤ 5 := hR.at0 ra 4 (by decide)
    have z_124 : (I o 4).toInt = (I0 o 4).toInt := by rw [hZ I 4 rfl hR]
    have g_125 : (0 : Int) ≤ (I o 6).toInt ∧ (I o 6).toInt ≤ 1600 := hR.at0 ra 6 (by decide)
    have g_126 : (0 : Int) ≤ (I0 o 6).toInt ∧ (I0 o 6).toInt ≤ 1600 := hR0.at0 ra 6 (by decide)
    have g_127 : (0 : Int) ≤ (I o 7).toInt ∧ (I o 7).toInt ≤ 1601 := hR.at0 ra 7 (by decide)
    have g_128 : (0 : Int) ≤ (I0 o 7).toInt ∧ (I0 o 7).toInt ≤ 1601 := hR0.at0 ra 7 (by decide)
    have g_129 : (0 : Int) ≤ (I o 8).toInt ∧ (I o 8).toInt ≤ 6 := hR.at0 ra 8 (by decide)
    have g_130 : (0 : Int) ≤ (I0 o 8).toInt ∧ (I0 o 8).toInt ≤ 6 := hR0.at0 ra 8 (by decide)
    refine sModel_next_260 o n sh Rf I L post x1 x2 hok hw ?_
    unfold fModel_next_260
    have g_131 : (0 : Int) ≤ (I o 7).toInt ∧ (I o 7).toInt ≤ 1601 := hR.at0 ra 7 (by decide)
    refine ⟨fun c_132 => ?_, fun c_132 => ?_⟩
    · have d_133 := iLe c_132
      unfold fModel_next_303
      have g_134 : (0 : Int) ≤ (I o 7).toInt ∧ (I o 7).toInt ≤ 1601 := hR.at0 ra 7 (by decide)
      have g_135 : (0 : Int) ≤ (I o 6).toInt ∧ (I o 6).toInt ≤ 1600 := hR.at0 ra 6 (by decide)
      have a_136 : ((I o 7) - (I o 6)).toInt = (I o 7).toInt - (I o 6).toInt := tSub (by omega) (by omega)
      have l_137 : (8 : Int32).toInt = 8 := rfl
      refine ⟨fun c_138 => ?_, fun c_138 => ?_⟩
      · have d_139 := iLe c_138
        refine y_Model_isKept hok hR (fun r_140 u_141 => ⟨r_140, I, L, rfl, rfl, ?_⟩)
        have b_142 : 0 ≤ r_140.toInt ∧ r_140.toInt ≤ 1 := u_141.rg
        have l_143 : (0 : Int32).toInt = 0 := rfl
        refine ⟨fun c_144 => ?_, fun c_144 => ?_⟩
        · have d_145 := iEq c_144
          unfold fModel_next_337
          have l_146 : (2 : Int32).toInt = 2 := rfl
          refine fun I_147 e_148 => ?_
          have hR_149 : RI R I_147 := hR.up0 (k := 8) ra (by decide) (Or.inr hz18) e_148 (show (0 : Int) ≤ (2 : Int32).toInt by omega) (show (2 : Int32).toInt ≤ (6 : Int) by omega)
          have hf_150 : Fm (fun c => c = o) I0 I_147 := hf.set (by first | rfl | omega | (dsimp only; omega)) e_148
          have t_151 : (I_147 o 3).toInt = (I o 3).toInt := by rw [← e_148, q_u_k (by decide)]
          have t_152 : (I_147 o 4).toInt = (I o 4).toInt := by rw [← e_148, q_u_k (by decide)]
          have t_153 : (I_147 o 6).toInt = (I o 6).toInt := by rw [← e_148, q_u_k (by decide)]
          have t_154 : (I_147 o 7).toInt = (I o 7).toInt := by rw [← e_148, q_u_k (by decide)]
          have t_155 : (I_147 o 8).toInt = (2 : Int32).toInt := by rw [← e_148, q_u_at]
          have t_156 : (I_147 o 9).toInt = (I o 9).toInt := by rw [← e_148, q_u_k (by decide)]
          exact (hp _ _ hR_149 hf_150 (by first | omega | (intro h; omega) | exact Or.inl rfl | exact Or.inr rfl) (by first | omega | (intro h; omega) | exact Or.inl rfl | exact Or.inr rfl) (by first | omega | (intro h; omega) | exact Or.inl rfl | exact Or.inr rfl) (by intro _; omega) (by first | omega | (intro h; omega) | exact Or.inl rfl | exact Or.inr rfl) (by first | omega | (intro h; omega) | exact Or.inl rfl | exact Or.inr rfl) (by intro h; omega) (by unfold MTk; refine ⟨by omega, fun h => by omega⟩))
        · have d_157 := iNe c_144
          unfold fModel_next_337
          have l_158 : (3 : Int32).toInt = 3 := rfl
          refine fun I_159 e_160 => ?_
          have hR_161 : RI R I_159 := hR.up0 (k := 8) ra (by decide) (Or.inr hz18) e_160 (show (0 : Int) ≤ (3 : Int32).toInt by omega) (show (3 : Int32).toInt ≤ (6 : Int) by omega)
          have hf_162 : Fm (fun c => c = o) I0 I_159 := hf.set (by first | rfl | omega | (dsimp only; omega)) e_160
          have t_163 : (I_159 o 3).toInt = (I o 3).toInt := by rw [← e_160, q_u_k (by decide)]
          have t_164 : (I_159 o 4).toInt = (I o 4).toInt := by rw [← e_160, q_u_k (by decide)]
          have t_165 : (I_159 o 6).toInt = (I o 6).toInt := by rw [← e_160, q_u_k (by decide)]
          have t_166 : (I_159 o 7).toInt = (I o 7).toInt := by rw [← e_160, q_u_k (by decide)]
          have t_167 : (I_159 o 8).toInt = (3 : Int32).toInt := by rw [← e_160, q_u_at]
          have t_168 : (I_159 o 9).toInt = (I o 9).toInt := by rw [← e_160, q_u_k (by decide)]
          exact (hp _ _ hR_161 hf_162 (by first | omega | (intro h; omega) | exact Or.inl rfl | exact Or.inr rfl) (by first | omega | (intro h; omega) | exact Or.inl rfl | exact Or.inr rfl) (by first | omega | (intro h; omega) | exact Or.inl rfl | exact Or.inr rfl) (by intro _; omega) (by first | omega | (intro h; omega) | exact Or.inl rfl | exact Or.inr rfl) (by first | omega | (intro h; omega) | exact Or.inl rfl | exact Or.inr rfl) (by intro h; omega) (by unfold MTk; refine ⟨by omega, fun h => by omega⟩))
      · have d_169 := iNle c_138
        unfold fModel_next_337
        have l_170 : (1 : Int32).toInt = 1 := rfl
        refine fun I_171 e_172 => ?_
        have hR_173 : RI R I_171 := hR.up0 (k := 8) ra (by decide) (Or.inr hz18) e_172 (show (0 : Int) ≤ (1 : Int32).toInt by omega) (show (1 : Int32).toInt ≤ (6 : Int) by omega)
        have hf_174 : Fm (fun c => c = o) I0 I_171 := hf.set (by first | rfl | omega | (dsimp only; omega)) e_172
        have t_175 : (I_171 o 3).toInt = (I o 3).toInt := by rw [← e_172, q_u_k (by decide)]
        have t_176 : (I_171 o 4).toInt = (I o 4).toInt := by rw [← e_172, q_u_k (by decide)]
        have t_177 : (I_171 o 6).toInt = (I o 6).toInt := by rw [← e_172, q_u_k (by decide)]
        have t_178 : (I_171 o 7).toInt = (I o 7).toInt := by rw [← e_172, q_u_k (by decide)]
        have t_179 : (I_171 o 8).toInt = (1 : Int32).toInt := by rw [← e_172, q_u_at]
        have t_180 : (I_171 o 9).toInt = (I o 9).toInt := by rw [← e_172, q_u_k (by decide)]
        exact (hp _ _ hR_173 hf_174 (by first | omega | (intro h; omega) | exact Or.inl rfl | exact Or.inr rfl) (by first | omega | (intro h; omega) | exact Or.inl rfl | exact Or.inr rfl) (by first | omega | (intro h; omega) | exact Or.inl rfl | exact Or.inr rfl) (by intro _; omega) (by first | omega | (intro h; omega) | exact Or.inl rfl | exact Or.inr rfl) (by first | omega | (intro h; omega) | exact Or.inl rfl | exact Or.inr rfl) (by intro h; omega) (by unfold MTk; refine ⟨by omega, fun h => by omega⟩))
    · have d_181 := iNle c_132
      have g_182 : (0 : Int) ≤ (I o 6).toInt ∧ (I o 6).toInt ≤ 1600 := hR.at0 ra 6 (by decide)
      have l_183 : (8 : Int32).toInt = 8 := rfl
      have a_184 : ((I o 6) + 8).toInt = (I o 6).toInt + (8 : Int32).toInt := tAdd (by omega) (by omega)
      refine ⟨fun c_185 => ?_, fun c_185 => ?_⟩
      · have d_186 := iLe c_185
        unfold fModel_next_303
        have g_187 : (0 : Int) ≤ (I o 7).toInt ∧ (I o 7).toInt ≤ 1601 := hR.at0 ra 7 (by decide)
        have g_188 : (0 : Int) ≤ (I o 6).toInt ∧ (I o 6).toInt ≤ 1600 := hR.at0 ra 6 (by decide)
        have a_189 : ((I o 7) - (I o 6)).toInt = (I o 7).toInt - (I o 6).toInt := tSub (by omega) (by omega)
        refine ⟨fun c_190 => ?_, fun c_190 => ?_⟩
        · have d_191 := iLe c_190
          refine y_Model_isKept hok hR (fun r_192 u_193 => ⟨r_192, I, L, rfl, rfl, ?_⟩)
          have b_194 : 0 ≤ r_192.toInt ∧ r_192.toInt ≤ 1 := u_193.rg
          have l_195 : (0 : Int32).toInt = 0 := rfl
          refine ⟨fun c_196 => ?_, fun c_196 => ?_⟩
          · have d_197 := iEq c_196
            unfold fModel_next_337
            have l_198 : (2 : Int32).toInt = 2 := rfl
            refine fun I_199 e_200 => ?_
            have hR_201 : RI R I_199 := hR.up0 (k := 8) ra (by decide) (Or.inr hz18) e_200 (show (0 : Int) ≤ (2 : Int32).toInt by omega) (show (2 : Int32).toInt ≤ (6 : Int) by omega)
            have hf_202 : Fm (fun c => c = o) I0 I_199 := hf.set (by first | rfl | omega | (dsimp only; omega)) e_200
            have t_203 : (I_199 o 3).toInt = (I o 3).toInt := by rw [← e_200, q_u_k (by decide)]
            have t_204 : (I_199 o 4).toInt = (I o 4).toInt := by rw [← e_200, q_u_k (by decide)]
            have t_205 : (I_199 o 6).toInt = (I o 6).toInt := by rw [← e_200, q_u_k (by decide)]
            have t_206 : (I_199 o 7).toInt = (I o 7).toInt := by rw [← e_200, q_u_k (by decide)]
            have t_207 : (I_199 o 8).toInt = (2 : Int32).toInt := by rw [← e_200, q_u_at]
            have t_208 : (I_199 o 9).toInt = (I o 9).toInt := by rw [← e_200, q_u_k (by decide)]
            exact (hp _ _ hR_201 hf_202 (by first | omega | (intro h; omega) | exact Or.inl rfl | exact Or.inr rfl) (by first | omega | (intro h; omega) | exact Or.inl rfl | exact Or.inr rfl) (by first | omega | (intro h; omega) | exact Or.inl rfl | exact Or.inr rfl) (by intro _; omega) (by first | omega | (intro h; omega) | exact Or.inl rfl | exact Or.inr rfl) (by first | omega | (intro h; omega) | exact Or.inl rfl | exact Or.inr rfl) (by intro h; omega) (by unfold MTk; refine ⟨by omega, fun h => by omega⟩))
          · have d_209 := iNe c_196
            unfold fModel_next_337
            have l_210 : (3 : Int32).toInt = 3 := rfl
            refine fun I_211 e_212 => ?_
            have hR_213 : RI R I_211 := hR.up0 (k := 8) ra (by decide) (Or.inr hz18) e_212 (show (0 : Int) ≤ (3 : Int32).toInt by omega) (show (3 : Int32).toInt ≤ (6 : Int) by omega)
            have hf_214 : Fm (fun c => c = o) I0 I_211 := hf.set (by first | rfl | omega | (dsimp only; omega)) e_212
            have t_215 : (I_211 o 3).toInt = (I o 3).toInt := by rw [← e_212, q_u_k (by decide)]
            have t_216 : (I_211 o 4).toInt = (I o 4).toInt := by rw [← e_212, q_u_k (by decide)]
            have t_217 : (I_211 o 6).toInt = (I o 6).toInt := by rw [← e_212, q_u_k (by decide)]
            have t_218 : (I_211 o 7).toInt = (I o 7).toInt := by rw [← e_212, q_u_k (by decide)]
            have t_219 : (I_211 o 8).toInt = (3 : Int32).toInt := by rw [← e_212, q_u_at]
            have t_220 : (I_211 o 9).toInt = (I o 9).toInt := by rw [← e_212, q_u_k (by decide)]
            exact (hp _ _ hR_213 hf_214 (by first | omega | (intro h; omega) | exact Or.inl rfl | exact Or.inr rfl) (by first | omega | (intro h; omega) | exact Or.inl rfl | exact Or.inr rfl) (by first | omega | (intro h; omega) | exact Or.inl rfl | exact Or.inr rfl) (by intro _; omega) (by first | omega | (intro h; omega) | exact Or.inl rfl | exact Or.inr rfl) (by first | omega | (intro h; omega) | exact Or.inl rfl | exact Or.inr rfl) (by intro h; omega) (by unfold MTk; refine ⟨by omega, fun h => by omega⟩))
        · have d_221 := iNle c_190
          unfold fModel_next_337
          have l_222 : (1 : Int32).toInt = 1 := rfl
          refine fun I_223 e_224 => ?_
          have hR_225 : RI R I_223 := hR.up0 (k := 8) ra (by decide) (Or.inr hz18) e_224 (show (0 : Int) ≤ (1 : Int32).toInt by omega) (show (1 : Int32).toInt ≤ (6 : Int) by omega)
          have hf_226 : Fm (fun c => c = o) I0 I_223 := hf.set (by first | rfl | omega | (dsimp only; omega)) e_224
          have t_227 : (I_223 o 3).toInt = (I o 3).toInt := by rw [← e_224, q_u_k (by decide)]
          have t_228 : (I_223 o 4).toInt = (I o 4).toInt := by rw [← e_224, q_u_k (by decide)]
          have t_229 : (I_223 o 6).toInt = (I o 6).toInt := by rw [← e_224, q_u_k (by decide)]
          have t_230 : (I_223 o 7).toInt = (I o 7).toInt := by rw [← e_224, q_u_k (by decide)]
          have t_231 : (I_223 o 8).toInt = (1 : Int32).toInt := by rw [← e_224, q_u_at]
          have t_232 : (I_223 o 9).toInt = (I o 9).toInt := by rw [← e_224, q_u_k (by decide)]
          exact (hp _ _ hR_225 hf_226 (by first | omega | (intro h; omega) | exact Or.inl rfl | exact Or.inr rfl) (by first | omega | (intro h; omega) | exact Or.inl rfl | exact Or.inr rfl) (by first | omega | (intro h; omega) | exact Or.inl rfl | exact Or.inr rfl) (by intro _; omega) (by first | omega | (intro h; omega) | exact Or.inl rfl | exact Or.inr rfl) (by first | omega | (intro h; omega) | exact Or.inl rfl | exact Or.inr rfl) (by intro h; omega) (by unfold MTk; refine ⟨by omega, fun h => by omega⟩))
      · have d_233 := iNle c_185
        refine y_Model_sign hok hw ra (by first | omega | (intro h; omega) | exact Or.inl rfl | exact Or.inr rfl) hR (fun r_234 u_235 u_236 => ⟨r_234, I, L, rfl, rfl, ?_⟩)
        refine fun L_237 e_238 => ?_
        have a_240 : (x2 + Int32.ofInt 1).toInt = x2.toInt + (1) := tIc (by omega) (by omega) (by decide) (by decide)
        generalize ez_239 : (x2 + Int32.ofInt 1) = z_239 at a_240 ⊢
        exact ih hR hf (by first | omega | (intro h; omega) | exact Or.inl rfl | exact Or.inr rfl) (by first | omega | (intro h; omega) | exact Or.inl rfl | exact Or.inr rfl) (by first | omega | (intro h; omega) | exact Or.inl rfl | exact Or.inr rfl) (by first | omega | (intro h; omega) | exact Or.inl rfl | exact Or.inr rfl) (by omega)
set_option maxHeartbeats 4000000 in
set_option maxRecDepth 20000 in
theorem yModel_next_223 {D : va_G} {cA : FieldType → ClassId} {b : Nat} {E : State → Prop} {R : qRg} {o n : Nat} {sh : Nat → qC} {Rf : Nat → Nat → Option Nat} {I0 : Nat → Nat → Int32} {L0 : Nat → Nat → Int64} {post : Option Value → qS → Prop} (hok : q_ok (qGG D cA b E)) (hw : WfModel (qGG D cA b E) n sh Rf o) (ra : RAModel R o) (hz16 : R.2 16 = true) (hz17 : R.2 17 = true) (hz18 : R.2 18 = true) (hz19 : R.2 19 = true) (hZ : Fz R I0 o wModel_next) (hR0 : RI R I0) (hq0 : (I0 o 7).toInt ≤ (I0 o 3).toInt) (hp : ∀ (I' : Nat → Nat → Int32) (L' : Nat → Nat → Int64), RI R I' → Fm (fun c => c = o) I0 I' → ((I' o 7).toInt ≤ (I' o 3).toInt) → ((I0 o 7).toInt ≤ (I' o 7).toInt) → (7 * (I0 o 7).toInt - (I0 o 8).toInt + (I0 o 4).toInt ≤ 7 * (I' o 7).toInt - (I' o 8).toInt + (I' o 4).toInt) → (Im ((I0 o 8).toInt ≠ 0) (7 * (I0 o 7).toInt - (I0 o 8).toInt + (I0 o 4).toInt < 7 * (I' o 7).toInt - (I' o 8).toInt + (I' o 4).toInt)) → ((I0 o 7).toInt ≤ (I' o 6).toInt) → ((I' o 6).toInt ≤ (I' o 3).toInt) → (MPo I' o) → (MTk I' o) → post none (n, sh, Rf, I', L')) : ∀ (k : Nat) {x1 : Int32} {I : Nat → Nat → Int32} {L : Nat → Nat → Int64}, RI R I → Fm (fun c => c = o) I0 I → ((I0 o 7).toInt ≤ (I o 6).toInt) → ((I o 6).toInt < (I o 7).toInt) → ((I o 7).toInt ≤ (I o 3).toInt) → (1600 - (I o 7).toInt).toNat < k → Ev (qGG D cA b E) mModel_next 2 (0, 0) 223 [(0, .ref o), (1, .int x1)] [] (n, sh, Rf, I, L) post := by
  intro k
  induction k with
  | zero =>
    intro x1 I L hR hf hi0 hi1 hi2 hm
    exact absurd hm (Nat.not_lt_zero _)
  | succ k ih =>
    intro x1 I L hR hf hi0 hi1 hi2 hm
    have g_241 : (0 : Int) ≤ (I o 3).toInt ∧ (I o 3).toInt ≤ 1600 := hR.at0 ra 3 (by decide)
    have z_242 : (I o 3).toInt = (I0 o 3).toInt := by rw [hZ I 3 rfl hR]
    have g_243 : (0 : Int) ≤ (I o 4).toInt ∧ (I o 4).toInt ≤ 5 := hR.at0 ra 4 (by decide)
    have z_244 : (I o 4).toInt = (I0 o 4).toInt := by rw [hZ I 4 rfl hR]
    have g_245 : (0 : Int) ≤ (I o 6).toInt ∧ (I o 6).toInt ≤ 1600 := hR.at0 ra 6 (by decide)
    have g_246 : (0 : Int) ≤ (I0 o 6).toInt ∧ (I0 o 6).toInt ≤ 1600 := hR0.at0 ra 6 (by decide)
    have g_247 : (0 : Int) ≤ (I o 7).toInt ∧ (I o 7).toInt ≤ 1601 := hR.at0 ra 7 (by decide)
    have g_248 : (0 : Int) ≤ (I0 o 7).toInt ∧ (I0 o 7).toInt ≤ 1601 := hR0.at0 ra 7 (by decide)
    have g_249 : (0 : Int) ≤ (I o 8).toInt ∧ (I o 8).toInt ≤ 6 := hR.at0 ra 8 (by decide)
    have g_250 : (0 : Int) ≤ (I0 o 8).toInt ∧ (I0 o 8).toInt ≤ 6 := hR0.at0 ra 8 (by decide)
    refine sModel_next_223 o n sh Rf I L post x1 hok hw ?_
    unfold fModel_next_223
    have g_251 : (0 : Int) ≤ (I o 7).toInt ∧ (I o 7).toInt ≤ 1601 := hR.at0 ra 7 (by decide)
    refine y_Model_sign hok hw ra (by first | omega | (intro h; omega) | exact Or.inl rfl | exact Or.inr rfl) hR (fun r_252 u_253 u_254 => ⟨r_252, I, L, rfl, rfl, ?_⟩)
    refine y_Model_isLetter hok hR (fun r_255 u_256 u_257 => ⟨r_255, I, L, rfl, rfl, ?_⟩)
    have b_258 : 0 ≤ r_255.toInt ∧ r_255.toInt ≤ 1 := u_256.rg
    have l_259 : (0 : Int32).toInt = 0 := rfl
    refine ⟨fun c_260 => ?_, fun c_260 => ?_⟩
    · have d_261 := iEq c_260
      refine fun L_262 e_263 => ?_
      have g_264 : (0 : Int) ≤ (I o 6).toInt ∧ (I o 6).toInt ≤ 1600 := hR.at0 ra 6 (by decide)
      exact yModel_next_260 (I0 := I0) (L0 := L0) hok hw ra hz16 hz17 hz18 hz19 hZ hR0 hq0 hp  _ hR hf (by first | omega | (intro h; omega) | exact Or.inl rfl | exact Or.inr rfl) (by first | omega | (intro h; omega) | exact Or.inl rfl | exact Or.inr rfl) (by first | omega | (intro h; omega) | exact Or.inl rfl | exact Or.inr rfl) (by first | omega | (intro h; omega) | exact Or.inl rfl | exact Or.inr rfl) (Nat.lt_succ_self _)
    · have d_265 := iNe c_260
      have lt := u_253 (by have := u_257 (by omega); omega)
      have g_266 : (0 : Int) ≤ (I o 7).toInt ∧ (I o 7).toInt ≤ 1601 := hR.at0 ra 7 (by decide)
      have l_267 : (1 : Int32).toInt = 1 := rfl
      have a_268 : ((I o 7) + 1).toInt = (I o 7).toInt + (1 : Int32).toInt := tAdd (by omega) (by omega)
      refine fun I_269 e_270 => ?_
      have hR_271 : RI R I_269 := hR.up0 (k := 7) ra (by decide) (Or.inr hz17) e_270 (show (0 : Int) ≤ ((I o 7) + 1).toInt by omega) (show ((I o 7) + 1).toInt ≤ (1601 : Int) by omega)
      have hf_272 : Fm (fun c => c = o) I0 I_269 := hf.set (by first | rfl | omega | (dsimp only; omega)) e_270
      have t_273 : (I_269 o 3).toInt = (I o 3).toInt := by rw [← e_270, q_u_k (by decide)]
      have t_274 : (I_269 o 4).toInt = (I o 4).toInt := by rw [← e_270, q_u_k (by decide)]
      have t_275 : (I_269 o 6).toInt = (I o 6).toInt := by rw [← e_270, q_u_k (by decide)]
      have t_276 : (I_269 o 7).toInt = ((I o 7) + 1).toInt := by rw [← e_270, q_u_at]
      have t_277 : (I_269 o 8).toInt = (I o 8).toInt := by rw [← e_270, q_u_k (by decide)]
      have t_278 : (I_269 o 9).toInt = (I o 9).toInt := by rw [← e_270, q_u_k (by decide)]
      exact ih hR_271 hf_272 (by first | omega | (intro h; omega) | exact Or.inl rfl | exact Or.inr rfl) (by first | omega | (intro h; omega) | exact Or.inl rfl | exact Or.inr rfl) (by first | omega | (intro h; omega) | exact Or.inl rfl | exact Or.inr rfl) (by omega)
set_option maxHeartbeats 4000000 in
set_option maxRecDepth 20000 in
theorem yModel_next_8 {D : va_G} {cA : FieldType → ClassId} {b : Nat} {E : State → Prop} {R : qRg} {o n : Nat} {sh : Nat → qC} {Rf : Nat → Nat → Option Nat} {I0 : Nat → Nat → Int32} {L0 : Nat → Nat → Int64} {post : Option Value → qS → Prop} (hok : q_ok (qGG D cA b E)) (hw : WfModel (qGG D cA b E) n sh Rf o) (ra : RAModel R o) (hz16 : R.2 16 = true) (hz17 : R.2 17 = true) (hz18 : R.2 18 = true) (hz19 : R.2 19 = true) (hZ : Fz R I0 o wModel_next) (hR0 : RI R I0) (hq0 : (I0 o 7).toInt ≤ (I0 o 3).toInt) (hp : ∀ (I' : Nat → Nat → Int32) (L' : Nat → Nat → Int64), RI R I' → Fm (fun c => c = o) I0 I' → ((I' o 7).toInt ≤ (I' o 3).toInt) → ((I0 o 7).toInt ≤ (I' o 7).toInt) → (7 * (I0 o 7).toInt - (I0 o 8).toInt + (I0 o 4).toInt ≤ 7 * (I' o 7).toInt - (I' o 8).toInt + (I' o 4).toInt) → (Im ((I0 o 8).toInt ≠ 0) (7 * (I0 o 7).toInt - (I0 o 8).toInt + (I0 o 4).toInt < 7 * (I' o 7).toInt - (I' o 8).toInt + (I' o 4).toInt)) → ((I0 o 7).toInt ≤ (I' o 6).toInt) → ((I' o 6).toInt ≤ (I' o 3).toInt) → (MPo I' o) → (MTk I' o) → post none (n, sh, Rf, I', L')) : ∀ (k : Nat)  {I : Nat → Nat → Int32} {L : Nat → Nat → Int64}, RI R I → Fm (fun c => c = o) I0 I → ((I o 7).toInt = (I0 o 7).toInt) → ((I o 7).toInt ≤ (I o 6).toInt) → ((I o 6).toInt ≤ (I o 3).toInt) → ((I o 7).toInt ≤ (I o 3).toInt) → (1600 - (I o 6).toInt).toNat < k → Ev (qGG D cA b E) mModel_next 2 (0, 0) 8 [(0, .ref o)] [] (n, sh, Rf, I, L) post := by
  intro k
  induction k with
  | zero =>
    intro  I L hR hf hi0 hi1 hi2 hi3 hm
    exact absurd hm (Nat.not_lt_zero _)
  | succ k ih =>
    intro  I L hR hf hi0 hi1 hi2 hi3 hm
    have g_279 : (0 : Int) ≤ (I o 3).toInt ∧ (I o 3).toInt ≤ 1600 := hR.at0 ra 3 (by decide)
    have z_280 : (I o 3).toInt = (I0 o 3).toInt := by rw [hZ I 3 rfl hR]
    have g_281 : (0 : Int) ≤ (I o 4).toInt ∧ (I o 4).toInt ≤ 5 := hR.at0 ra 4 (by decide)
    have z_282 : (I o 4).toInt = (I0 o 4).toInt := by rw [hZ I 4 rfl hR]
    have g_283 : (0 : Int) ≤ (I o 6).toInt ∧ (I o 6).toInt ≤ 1600 := hR.at0 ra 6 (by decide)
    have g_284 : (0 : Int) ≤ (I0 o 6).toInt ∧ (I0 o 6).toInt ≤ 1600 := hR0.at0 ra 6 (by decide)
    have g_285 : (0 : Int) ≤ (I o 7).toInt ∧ (I o 7).toInt ≤ 1601 := hR.at0 ra 7 (by decide)
    have g_286 : (0 : Int) ≤ (I0 o 7).toInt ∧ (I0 o 7).toInt ≤ 1601 := hR0.at0 ra 7 (by decide)
    have g_287 : (0 : Int) ≤ (I o 8).toInt ∧ (I o 8).toInt ≤ 6 := hR.at0 ra 8 (by decide)
    have g_288 : (0 : Int) ≤ (I0 o 8).toInt ∧ (I0 o 8).toInt ≤ 6 := hR0.at0 ra 8 (by decide)
    refine sModel_next_8 o n sh Rf I L post  hok hw ?_
    unfold fModel_next_8
    have g_289 : (0 : Int) ≤ (I o 6).toInt ∧ (I o 6).toInt ≤ 1600 := hR.at0 ra 6 (by decide)
    have g_290 : (0 : Int) ≤ (I o 3).toInt ∧ (I o 3).toInt ≤ 1600 := hR.at0 ra 3 (by decide)
    refine ⟨fun c_291 => ?_, fun c_291 => ?_⟩
    · have d_292 := iLe c_291
      unfold fModel_next_58
      have g_293 : (0 : Int) ≤ (I o 6).toInt ∧ (I o 6).toInt ≤ 1600 := hR.at0 ra 6 (by decide)
      refine y_Model_sign hok hw ra (by first | omega | (intro h; omega) | exact Or.inl rfl | exact Or.inr rfl) hR (fun r_294 u_295 u_296 => ⟨r_294, I, L, rfl, rfl, ?_⟩)
      obtain ⟨a1, ha1⟩ : ∃ a, a = I o 6 := ⟨_, rfl⟩
      have hA : a1.toInt = (I o 6).toInt := by rw [ha1]
      have sc := u_296
      rw [hf (o + 2) (by first | omega | (dsimp only; omega)), show I o 3 = I0 o 3 from Int32.toInt_inj.mp (by omega), show I o 6 = a1 from Int32.toInt_inj.mp (by omega)] at sc
      have g_297 : (0 : Int) ≤ (I o 6).toInt ∧ (I o 6).toInt ≤ 1600 := hR.at0 ra 6 (by decide)
      have l_298 : (1 : Int32).toInt = 1 := rfl
      have a_299 : ((I o 6) + 1).toInt = (I o 6).toInt + (1 : Int32).toInt := tAdd (by omega) (by omega)
      refine fun I_300 e_301 => ?_
      have hR_302 : RI R I_300 := hR.up0 (k := 7) ra (by decide) (Or.inr hz17) e_301 (show (0 : Int) ≤ ((I o 6) + 1).toInt by omega) (show ((I o 6) + 1).toInt ≤ (1601 : Int) by omega)
      have hf_303 : Fm (fun c => c = o) I0 I_300 := hf.set (by first | rfl | omega | (dsimp only; omega)) e_301
      have t_304 : (I_300 o 3).toInt = (I o 3).toInt := by rw [← e_301, q_u_k (by decide)]
      have t_305 : (I_300 o 4).toInt = (I o 4).toInt := by rw [← e_301, q_u_k (by decide)]
      have t_306 : (I_300 o 6).toInt = (I o 6).toInt := by rw [← e_301, q_u_k (by decide)]
      have t_307 : (I_300 o 7).toInt = ((I o 6) + 1).toInt := by rw [← e_301, q_u_at]
      have t_308 : (I_300 o 8).toInt = (I o 8).toInt := by rw [← e_301, q_u_k (by decide)]
      have t_309 : (I_300 o 9).toInt = (I o 9).toInt := by rw [← e_301, q_u_k (by decide)]
      have g_310 : (0 : Int) ≤ (I_300 o 6).toInt ∧ (I_300 o 6).toInt ≤ 1600 := hR_302.at0 ra 6 (by decide)
      have g_311 : (0 : Int) ≤ (I_300 o 3).toInt ∧ (I_300 o 3).toInt ≤ 1600 := hR_302.at0 ra 3 (by decide)
      refine ⟨fun c_312 => ?_, fun c_312 => ?_⟩
      · have d_313 := iLt c_312
        have l_314 : (0 : Int32).toInt = 0 := rfl
        refine ⟨fun c_315 => ?_, fun c_315 => ?_⟩
        · have d_316 := iNe c_315
          unfold fModel_next_216
          refine y_Model_isLetter hok hR_302 (fun r_317 u_318 u_319 => ⟨r_317, I_300, L, rfl, rfl, ?_⟩)
          have b_320 : 0 ≤ r_317.toInt ∧ r_317.toInt ≤ 1 := u_318.rg
          refine ⟨fun c_321 => ?_, fun c_321 => ?_⟩
          · have d_322 := iEq c_321
            refine y_Model_isDigit hok hR_302 (fun r_323 u_324 u_325 u_326 => ⟨r_323, I_300, L, rfl, rfl, ?_⟩)
            have b_327 : 0 ≤ r_323.toInt ∧ r_323.toInt ≤ 1 := u_324.rg
            refine ⟨fun c_328 => ?_, fun c_328 => ?_⟩
            · have d_329 := iEq c_328
              refine y_Model_isSign hok hR_302 (fun r_330 u_331 => ⟨r_330, I_300, L, rfl, rfl, ?_⟩)
              have b_332 : 0 ≤ r_330.toInt ∧ r_330.toInt ≤ 1 := u_331.rg
              refine ⟨fun c_333 => ?_, fun c_333 => ?_⟩
              · have d_334 := iEq c_333
                refine fun I_335 e_336 => ?_
                have hR_337 : RI R I_335 := hR_302.up0 (k := 8) ra (by decide) (Or.inr hz18) e_336 (show (0 : Int) ≤ (1 : Int32).toInt by omega) (show (1 : Int32).toInt ≤ (6 : Int) by omega)
                have hf_338 : Fm (fun c => c = o) I0 I_335 := hf_303.set (by first | rfl | omega | (dsimp only; omega)) e_336
                have t_339 : (I_335 o 3).toInt = (I_300 o 3).toInt := by rw [← e_336, q_u_k (by decide)]
                have t_340 : (I_335 o 4).toInt = (I_300 o 4).toInt := by rw [← e_336, q_u_k (by decide)]
                have t_341 : (I_335 o 6).toInt = (I_300 o 6).toInt := by rw [← e_336, q_u_k (by decide)]
                have t_342 : (I_335 o 7).toInt = (I_300 o 7).toInt := by rw [← e_336, q_u_k (by decide)]
                have t_343 : (I_335 o 8).toInt = (1 : Int32).toInt := by rw [← e_336, q_u_at]
                have t_344 : (I_335 o 9).toInt = (I_300 o 9).toInt := by rw [← e_336, q_u_k (by decide)]
                exact (hp _ _ hR_337 hf_338 (by first | omega | (intro h; omega) | exact Or.inl rfl | exact Or.inr rfl) (by first | omega | (intro h; omega) | exact Or.inl rfl | exact Or.inr rfl) (by first | omega | (intro h; omega) | exact Or.inl rfl | exact Or.inr rfl) (by intro _; omega) (by first | omega | (intro h; omega) | exact Or.inl rfl | exact Or.inr rfl) (by first | omega | (intro h; omega) | exact Or.inl rfl | exact Or.inr rfl) (by intro h; omega) (by unfold MTk; refine ⟨by omega, fun h => by omega⟩))
              · have d_345 := iNe c_333
                have l_346 : (6 : Int32).toInt = 6 := rfl
                refine fun I_347 e_348 => ?_
                have hR_349 : RI R I_347 := hR_302.up0 (k := 8) ra (by decide) (Or.inr hz18) e_348 (show (0 : Int) ≤ (6 : Int32).toInt by omega) (show (6 : Int32).toInt ≤ (6 : Int) by omega)
                have hf_350 : Fm (fun c => c = o) I0 I_347 := hf_303.set (by first | rfl | omega | (dsimp only; omega)) e_348
                have t_351 : (I_347 o 3).toInt = (I_300 o 3).toInt := by rw [← e_348, q_u_k (by decide)]
                have t_352 : (I_347 o 4).toInt = (I_300 o 4).toInt := by rw [← e_348, q_u_k (by decide)]
                have t_353 : (I_347 o 6).toInt = (I_300 o 6).toInt := by rw [← e_348, q_u_k (by decide)]
                have t_354 : (I_347 o 7).toInt = (I_300 o 7).toInt := by rw [← e_348, q_u_k (by decide)]
                have t_355 : (I_347 o 8).toInt = (6 : Int32).toInt := by rw [← e_348, q_u_at]
                have t_356 : (I_347 o 9).toInt = (I_300 o 9).toInt := by rw [← e_348, q_u_k (by decide)]
                exact (hp _ _ hR_349 hf_350 (by first | omega | (intro h; omega) | exact Or.inl rfl | exact Or.inr rfl) (by first | omega | (intro h; omega) | exact Or.inl rfl | exact Or.inr rfl) (by first | omega | (intro h; omega) | exact Or.inl rfl | exact Or.inr rfl) (by intro _; omega) (by first | omega | (intro h; omega) | exact Or.inl rfl | exact Or.inr rfl) (by first | omega | (intro h; omega) | exact Or.inl rfl | exact Or.inr rfl) (by intro h; omega) (by unfold MTk; refine ⟨by omega, fun h => by omega⟩))
            · have d_357 := iNe c_328
              have dc := u_325 (by omega)
              refine fun I_358 e_359 => ?_
              have hR_360 : RI R I_358 := hR_302.up0 (k := 9) ra (by decide) (Or.inr hz19) e_359 (i_lo _) (i_hi _)
              have hf_361 : Fm (fun c => c = o) I0 I_358 := hf_303.set (by first | rfl | omega | (dsimp only; omega)) e_359
              have t_362 : (I_358 o 3).toInt = (I_300 o 3).toInt := by rw [← e_359, q_u_k (by decide)]
              have t_363 : (I_358 o 4).toInt = (I_300 o 4).toInt := by rw [← e_359, q_u_k (by decide)]
              have t_364 : (I_358 o 6).toInt = (I_300 o 6).toInt := by rw [← e_359, q_u_k (by decide)]
              have t_365 : (I_358 o 7).toInt = (I_300 o 7).toInt := by rw [← e_359, q_u_k (by decide)]
              have t_366 : (I_358 o 8).toInt = (I_300 o 8).toInt := by rw [← e_359, q_u_k (by decide)]
              have t_367 : (I_358 o 9).toInt = (0 : Int32).toInt := by rw [← e_359, q_u_at]
              have g_368 : (0 : Int) ≤ (I_358 o 6).toInt ∧ (I_358 o 6).toInt ≤ 1600 := hR_360.at0 ra 6 (by decide)
              refine fun I_369 e_370 => ?_
              have hR_371 : RI R I_369 := hR_360.up0 (k := 7) ra (by decide) (Or.inr hz17) e_370 (show (0 : Int) ≤ (I_358 o 6).toInt by omega) (show (I_358 o 6).toInt ≤ (1601 : Int) by omega)
              have hf_372 : Fm (fun c => c = o) I0 I_369 := hf_361.set (by first | rfl | omega | (dsimp only; omega)) e_370
              have t_373 : (I_369 o 3).toInt = (I_358 o 3).toInt := by rw [← e_370, q_u_k (by decide)]
              have t_374 : (I_369 o 4).toInt = (I_358 o 4).toInt := by rw [← e_370, q_u_k (by decide)]
              have t_375 : (I_369 o 6).toInt = (I_358 o 6).toInt := by rw [← e_370, q_u_k (by decide)]
              have t_376 : (I_369 o 7).toInt = (I_358 o 6).toInt := by rw [← e_370, q_u_at]
              have t_377 : (I_369 o 8).toInt = (I_358 o 8).toInt := by rw [← e_370, q_u_k (by decide)]
              have t_378 : (I_369 o 9).toInt = (I_358 o 9).toInt := by rw [← e_370, q_u_k (by decide)]
              exact yModel_next_363 (I0 := I0) (L0 := L0) hok hw ra hz16 hz17 hz18 hz19 hZ hR0 hq0 hp  _ hR_371 hf_372 (by first | omega | (intro h; omega) | exact Or.inl rfl | exact Or.inr rfl) (by first | omega | (intro h; omega) | exact Or.inl rfl | exact Or.inr rfl) (by first | exact sgLo sc (by omega) (by omega) | exact sgLo (a := I o 6) rfl (by omega) (by omega)) (by first | exact sgHi sc (by omega) (by omega) | exact sgHi (a := I o 6) rfl (by omega) (by omega)) (by first | omega | (intro h; omega) | exact Or.inl rfl | exact Or.inr rfl) (Nat.lt_succ_self _)
          · have d_379 := iNe c_321
            exact yModel_next_223 (I0 := I0) (L0 := L0) hok hw ra hz16 hz17 hz18 hz19 hZ hR0 hq0 hp  _ hR_302 hf_303 (by first | omega | (intro h; omega) | exact Or.inl rfl | exact Or.inr rfl) (by first | omega | (intro h; omega) | exact Or.inl rfl | exact Or.inr rfl) (by first | omega | (intro h; omega) | exact Or.inl rfl | exact Or.inr rfl) (Nat.lt_succ_self _)
        · have d_380 := iEq c_315
          have l_381 : (112 : Int32).toInt = 112 := rfl
          refine ⟨fun c_382 => ?_, fun c_382 => ?_⟩
          · have d_383 := iNe c_382
            unfold fModel_next_216
            refine y_Model_isLetter hok hR_302 (fun r_384 u_385 u_386 => ⟨r_384, I_300, L, rfl, rfl, ?_⟩)
            have b_387 : 0 ≤ r_384.toInt ∧ r_384.toInt ≤ 1 := u_385.rg
            refine ⟨fun c_388 => ?_, fun c_388 => ?_⟩
            · have d_389 := iEq c_388
              refine y_Model_isDigit hok hR_302 (fun r_390 u_391 u_392 u_393 => ⟨r_390, I_300, L, rfl, rfl, ?_⟩)
              have b_394 : 0 ≤ r_390.toInt ∧ r_390.toInt ≤ 1 := u_391.rg
              refine ⟨fun c_395 => ?_, fun c_395 => ?_⟩
              · have d_396 := iEq c_395
                refine y_Model_isSign hok hR_302 (fun r_397 u_398 => ⟨r_397, I_300, L, rfl, rfl, ?_⟩)
                have b_399 : 0 ≤ r_397.toInt ∧ r_397.toInt ≤ 1 := u_398.rg
                refine ⟨fun c_400 => ?_, fun c_400 => ?_⟩
                · have d_401 := iEq c_400
                  refine fun I_402 e_403 => ?_
                  have hR_404 : RI R I_402 := hR_302.up0 (k := 8) ra (by decide) (Or.inr hz18) e_403 (show (0 : Int) ≤ (1 : Int32).toInt by omega) (show (1 : Int32).toInt ≤ (6 : Int) by omega)
                  have hf_405 : Fm (fun c => c = o) I0 I_402 := hf_303.set (by first | rfl | omega | (dsimp only; omega)) e_403
                  have t_406 : (I_402 o 3).toInt = (I_300 o 3).toInt := by rw [← e_403, q_u_k (by decide)]
                  have t_407 : (I_402 o 4).toInt = (I_300 o 4).toInt := by rw [← e_403, q_u_k (by decide)]
                  have t_408 : (I_402 o 6).toInt = (I_300 o 6).toInt := by rw [← e_403, q_u_k (by decide)]
                  have t_409 : (I_402 o 7).toInt = (I_300 o 7).toInt := by rw [← e_403, q_u_k (by decide)]
                  have t_410 : (I_402 o 8).toInt = (1 : Int32).toInt := by rw [← e_403, q_u_at]
                  have t_411 : (I_402 o 9).toInt = (I_300 o 9).toInt := by rw [← e_403, q_u_k (by decide)]
                  exact (hp _ _ hR_404 hf_405 (by first | omega | (intro h; omega) | exact Or.inl rfl | exact Or.inr rfl) (by first | omega | (intro h; omega) | exact Or.inl rfl | exact Or.inr rfl) (by first | omega | (intro h; omega) | exact Or.inl rfl | exact Or.inr rfl) (by intro _; omega) (by first | omega | (intro h; omega) | exact Or.inl rfl | exact Or.inr rfl) (by first | omega | (intro h; omega) | exact Or.inl rfl | exact Or.inr rfl) (by intro h; omega) (by unfold MTk; refine ⟨by omega, fun h => by omega⟩))
                · have d_412 := iNe c_400
                  have l_413 : (6 : Int32).toInt = 6 := rfl
                  refine fun I_414 e_415 => ?_
                  have hR_416 : RI R I_414 := hR_302.up0 (k := 8) ra (by decide) (Or.inr hz18) e_415 (show (0 : Int) ≤ (6 : Int32).toInt by omega) (show (6 : Int32).toInt ≤ (6 : Int) by omega)
                  have hf_417 : Fm (fun c => c = o) I0 I_414 := hf_303.set (by first | rfl | omega | (dsimp only; omega)) e_415
                  have t_418 : (I_414 o 3).toInt = (I_300 o 3).toInt := by rw [← e_415, q_u_k (by decide)]
                  have t_419 : (I_414 o 4).toInt = (I_300 o 4).toInt := by rw [← e_415, q_u_k (by decide)]
                  have t_420 : (I_414 o 6).toInt = (I_300 o 6).toInt := by rw [← e_415, q_u_k (by decide)]
                  have t_421 : (I_414 o 7).toInt = (I_300 o 7).toInt := by rw [← e_415, q_u_k (by decide)]
                  have t_422 : (I_414 o 8).toInt = (6 : Int32).toInt := by rw [← e_415, q_u_at]
                  have t_423 : (I_414 o 9).toInt = (I_300 o 9).toInt := by rw [← e_415, q_u_k (by decide)]
                  exact (hp _ _ hR_416 hf_417 (by first | omega | (intro h; omega) | exact Or.inl rfl | exact Or.inr rfl) (by first | omega | (intro h; omega) | exact Or.inl rfl | exact Or.inr rfl) (by first | omega | (intro h; omega) | exact Or.inl rfl | exact Or.inr rfl) (by intro _; omega) (by first | omega | (intro h; omega) | exact Or.inl rfl | exact Or.inr rfl) (by first | omega | (intro h; omega) | exact Or.inl rfl | exact Or.inr rfl) (by intro h; omega) (by unfold MTk; refine ⟨by omega, fun h => by omega⟩))
              · have d_424 := iNe c_395
                have dc := u_392 (by omega)
                refine fun I_425 e_426 => ?_
                have hR_427 : RI R I_425 := hR_302.up0 (k := 9) ra (by decide) (Or.inr hz19) e_426 (i_lo _) (i_hi _)
                have hf_428 : Fm (fun c => c = o) I0 I_425 := hf_303.set (by first | rfl | omega | (dsimp only; omega)) e_426
                have t_429 : (I_425 o 3).toInt = (I_300 o 3).toInt := by rw [← e_426, q_u_k (by decide)]
                have t_430 : (I_425 o 4).toInt = (I_300 o 4).toInt := by rw [← e_426, q_u_k (by decide)]
                have t_431 : (I_425 o 6).toInt = (I_300 o 6).toInt := by rw [← e_426, q_u_k (by decide)]
                have t_432 : (I_425 o 7).toInt = (I_300 o 7).toInt := by rw [← e_426, q_u_k (by decide)]
                have t_433 : (I_425 o 8).toInt = (I_300 o 8).toInt := by rw [← e_426, q_u_k (by decide)]
                have t_434 : (I_425 o 9).toInt = (0 : Int32).toInt := by rw [← e_426, q_u_at]
                have g_435 : (0 : Int) ≤ (I_425 o 6).toInt ∧ (I_425 o 6).toInt ≤ 1600 := hR_427.at0 ra 6 (by decide)
                refine fun I_436 e_437 => ?_
                have hR_438 : RI R I_436 := hR_427.up0 (k := 7) ra (by decide) (Or.inr hz17) e_437 (show (0 : Int) ≤ (I_425 o 6).toInt by omega) (show (I_425 o 6).toInt ≤ (1601 : Int) by omega)
                have hf_439 : Fm (fun c => c = o) I0 I_436 := hf_428.set (by first | rfl | omega | (dsimp only; omega)) e_437
                have t_440 : (I_436 o 3).toInt = (I_425 o 3).toInt := by rw [← e_437, q_u_k (by decide)]
                have t_441 : (I_436 o 4).toInt = (I_425 o 4).toInt := by rw [← e_437, q_u_k (by decide)]
                have t_442 : (I_436 o 6).toInt = (I_425 o 6).toInt := by rw [← e_437, q_u_k (by decide)]
                have t_443 : (I_436 o 7).toInt = (I_425 o 6).toInt := by rw [← e_437, q_u_at]
                have t_444 : (I_436 o 8).toInt = (I_425 o 8).toInt := by rw [← e_437, q_u_k (by decide)]
                have t_445 : (I_436 o 9).toInt = (I_425 o 9).toInt := by rw [← e_437, q_u_k (by decide)]
                exact yModel_next_363 (I0 := I0) (L0 := L0) hok hw ra hz16 hz17 hz18 hz19 hZ hR0 hq0 hp  _ hR_438 hf_439 (by first | omega | (intro h; omega) | exact Or.inl rfl | exact Or.inr rfl) (by first | omega | (intro h; omega) | exact Or.inl rfl | exact Or.inr rfl) (by first | exact sgLo sc (by omega) (by omega) | exact sgLo (a := I o 6) rfl (by omega) (by omega)) (by first | exact sgHi sc (by omega) (by omega) | exact sgHi (a := I o 6) rfl (by omega) (by omega)) (by first | omega | (intro h; omega) | exact Or.inl rfl | exact Or.inr rfl) (Nat.lt_succ_self _)
            · have d_446 := iNe c_388
              exact yModel_next_223 (I0 := I0) (L0 := L0) hok hw ra hz16 hz17 hz18 hz19 hZ hR0 hq0 hp  _ hR_302 hf_303 (by first | omega | (intro h; omega) | exact Or.inl rfl | exact Or.inr rfl) (by first | omega | (intro h; omega) | exact Or.inl rfl | exact Or.inr rfl) (by first | omega | (intro h; omega) | exact Or.inl rfl | exact Or.inr rfl) (Nat.lt_succ_self _)
          · have d_447 := iEq c_382
            have g_448 : (0 : Int) ≤ (I_300 o 6).toInt ∧ (I_300 o 6).toInt ≤ 1600 := hR_302.at0 ra 6 (by decide)
            have a_449 : ((I_300 o 6) + 1).toInt = (I_300 o 6).toInt + (1 : Int32).toInt := tAdd (by omega) (by omega)
            refine y_Model_pointAt hok hw ra (by first | omega | (intro h; omega) | exact Or.inl rfl | exact Or.inr rfl) hR_302 (fun r_450 u_451 u_452 => ⟨r_450, I_300, L, rfl, rfl, ?_⟩)
            refine ⟨fun c_453 => ?_, fun c_453 => ?_⟩
            · have d_454 := iLe c_453
              unfold fModel_next_216
              refine y_Model_isLetter hok hR_302 (fun r_455 u_456 u_457 => ⟨r_455, I_300, L, rfl, rfl, ?_⟩)
              have b_458 : 0 ≤ r_455.toInt ∧ r_455.toInt ≤ 1 := u_456.rg
              refine ⟨fun c_459 => ?_, fun c_459 => ?_⟩
              · have d_460 := iEq c_459
                refine y_Model_isDigit hok hR_302 (fun r_461 u_462 u_463 u_464 => ⟨r_461, I_300, L, rfl, rfl, ?_⟩)
                have b_465 : 0 ≤ r_461.toInt ∧ r_461.toInt ≤ 1 := u_462.rg
                refine ⟨fun c_466 => ?_, fun c_466 => ?_⟩
                · have d_467 := iEq c_466
                  refine y_Model_isSign hok hR_302 (fun r_468 u_469 => ⟨r_468, I_300, L, rfl, rfl, ?_⟩)
                  have b_470 : 0 ≤ r_468.toInt ∧ r_468.toInt ≤ 1 := u_469.rg
                  refine ⟨fun c_471 => ?_, fun c_471 => ?_⟩
                  · have d_472 := iEq c_471
                    refine fun I_473 e_474 => ?_
                    have hR_475 : RI R I_473 := hR_302.up0 (k := 8) ra (by decide) (Or.inr hz18) e_474 (show (0 : Int) ≤ (1 : Int32).toInt by omega) (show (1 : Int32).toInt ≤ (6 : Int) by omega)
                    have hf_476 : Fm (fun c => c = o) I0 I_473 := hf_303.set (by first | rfl | omega | (dsimp only; omega)) e_474
                    have t_477 : (I_473 o 3).toInt = (I_300 o 3).toInt := by rw [← e_474, q_u_k (by decide)]
                    have t_478 : (I_473 o 4).toInt = (I_300 o 4).toInt := by rw [← e_474, q_u_k (by decide)]
                    have t_479 : (I_473 o 6).toInt = (I_300 o 6).toInt := by rw [← e_474, q_u_k (by decide)]
                    have t_480 : (I_473 o 7).toInt = (I_300 o 7).toInt := by rw [← e_474, q_u_k (by decide)]
                    have t_481 : (I_473 o 8).toInt = (1 : Int32).toInt := by rw [← e_474, q_u_at]
                    have t_482 : (I_473 o 9).toInt = (I_300 o 9).toInt := by rw [← e_474, q_u_k (by decide)]
                    exact (hp _ _ hR_475 hf_476 (by first | omega | (intro h; omega) | exact Or.inl rfl | exact Or.inr rfl) (by first | omega | (intro h; omega) | exact Or.inl rfl | exact Or.inr rfl) (by first | omega | (intro h; omega) | exact Or.inl rfl | exact Or.inr rfl) (by intro _; omega) (by first | omega | (intro h; omega) | exact Or.inl rfl | exact Or.inr rfl) (by first | omega | (intro h; omega) | exact Or.inl rfl | exact Or.inr rfl) (by intro h; omega) (by unfold MTk; refine ⟨by omega, fun h => by omega⟩))
                  · have d_483 := iNe c_471
                    have l_484 : (6 : Int32).toInt = 6 := rfl
                    refine fun I_485 e_486 => ?_
                    have hR_487 : RI R I_485 := hR_302.up0 (k := 8) ra (by decide) (Or.inr hz18) e_486 (show (0 : Int) ≤ (6 : Int32).toInt by omega) (show (6 : Int32).toInt ≤ (6 : Int) by omega)
                    have hf_488 : Fm (fun c => c = o) I0 I_485 := hf_303.set (by first | rfl | omega | (dsimp only; omega)) e_486
                    have t_489 : (I_485 o 3).toInt = (I_300 o 3).toInt := by rw [← e_486, q_u_k (by decide)]
                    have t_490 : (I_485 o 4).toInt = (I_300 o 4).toInt := by rw [← e_486, q_u_k (by decide)]
                    have t_491 : (I_485 o 6).toInt = (I_300 o 6).toInt := by rw [← e_486, q_u_k (by decide)]
                    have t_492 : (I_485 o 7).toInt = (I_300 o 7).toInt := by rw [← e_486, q_u_k (by decide)]
                    have t_493 : (I_485 o 8).toInt = (6 : Int32).toInt := by rw [← e_486, q_u_at]
                    have t_494 : (I_485 o 9).toInt = (I_300 o 9).toInt := by rw [← e_486, q_u_k (by decide)]
                    exact (hp _ _ hR_487 hf_488 (by first | omega | (intro h; omega) | exact Or.inl rfl | exact Or.inr rfl) (by first | omega | (intro h; omega) | exact Or.inl rfl | exact Or.inr rfl) (by first | omega | (intro h; omega) | exact Or.inl rfl | exact Or.inr rfl) (by intro _; omega) (by first | omega | (intro h; omega) | exact Or.inl rfl | exact Or.inr rfl) (by first | omega | (intro h; omega) | exact Or.inl rfl | exact Or.inr rfl) (by intro h; omega) (by unfold MTk; refine ⟨by omega, fun h => by omega⟩))
                · have d_495 := iNe c_466
                  have dc := u_463 (by omega)
                  refine fun I_496 e_497 => ?_
                  have hR_498 : RI R I_496 := hR_302.up0 (k := 9) ra (by decide) (Or.inr hz19) e_497 (i_lo _) (i_hi _)
                  have hf_499 : Fm (fun c => c = o) I0 I_496 := hf_303.set (by first | rfl | omega | (dsimp only; omega)) e_497
                  have t_500 : (I_496 o 3).toInt = (I_300 o 3).toInt := by rw [← e_497, q_u_k (by decide)]
                  have t_501 : (I_496 o 4).toInt = (I_300 o 4).toInt := by rw [← e_497, q_u_k (by decide)]
                  have t_502 : (I_496 o 6).toInt = (I_300 o 6).toInt := by rw [← e_497, q_u_k (by decide)]
                  have t_503 : (I_496 o 7).toInt = (I_300 o 7).toInt := by rw [← e_497, q_u_k (by decide)]
                  have t_504 : (I_496 o 8).toInt = (I_300 o 8).toInt := by rw [← e_497, q_u_k (by decide)]
                  have t_505 : (I_496 o 9).toInt = (0 : Int32).toInt := by rw [← e_497, q_u_at]
                  have g_506 : (0 : Int) ≤ (I_496 o 6).toInt ∧ (I_496 o 6).toInt ≤ 1600 := hR_498.at0 ra 6 (by decide)
                  refine fun I_507 e_508 => ?_
                  have hR_509 : RI R I_507 := hR_498.up0 (k := 7) ra (by decide) (Or.inr hz17) e_508 (show (0 : Int) ≤ (I_496 o 6).toInt by omega) (show (I_496 o 6).toInt ≤ (1601 : Int) by omega)
                  have hf_510 : Fm (fun c => c = o) I0 I_507 := hf_499.set (by first | rfl | omega | (dsimp only; omega)) e_508
                  have t_511 : (I_507 o 3).toInt = (I_496 o 3).toInt := by rw [← e_508, q_u_k (by decide)]
                  have t_512 : (I_507 o 4).toInt = (I_496 o 4).toInt := by rw [← e_508, q_u_k (by decide)]
                  have t_513 : (I_507 o 6).toInt = (I_496 o 6).toInt := by rw [← e_508, q_u_k (by decide)]
                  have t_514 : (I_507 o 7).toInt = (I_496 o 6).toInt := by rw [← e_508, q_u_at]
                  have t_515 : (I_507 o 8).toInt = (I_496 o 8).toInt := by rw [← e_508, q_u_k (by decide)]
                  have t_516 : (I_507 o 9).toInt = (I_496 o 9).toInt := by rw [← e_508, q_u_k (by decide)]
                  exact yModel_next_363 (I0 := I0) (L0 := L0) hok hw ra hz16 hz17 hz18 hz19 hZ hR0 hq0 hp  _ hR_509 hf_510 (by first | omega | (intro h; omega) | exact Or.inl rfl | exact Or.inr rfl) (by first | omega | (intro h; omega) | exact Or.inl rfl | exact Or.inr rfl) (by first | exact sgLo sc (by omega) (by omega) | exact sgLo (a := I o 6) rfl (by omega) (by omega)) (by first | exact sgHi sc (by omega) (by omega) | exact sgHi (a := I o 6) rfl (by omega) (by omega)) (by first | omega | (intro h; omega) | exact Or.inl rfl | exact Or.inr rfl) (Nat.lt_succ_self _)
              · have d_517 := iNe c_459
                exact yModel_next_223 (I0 := I0) (L0 := L0) hok hw ra hz16 hz17 hz18 hz19 hZ hR0 hq0 hp  _ hR_302 hf_303 (by first | omega | (intro h; omega) | exact Or.inl rfl | exact Or.inr rfl) (by first | omega | (intro h; omega) | exact Or.inl rfl | exact Or.inr rfl) (by first | omega | (intro h; omega) | exact Or.inl rfl | exact Or.inr rfl) (Nat.lt_succ_self _)
            · have d_518 := iNle c_453
              have pr := u_452
              rw [hf_303 (o + 2) (by first | omega | (dsimp only; omega)), show I_300 o 3 = I0 o 3 from Int32.toInt_inj.mp (by omega), show I_300 o 6 = a1 from Int32.toInt_inj.mp (by omega)] at pr
              have dk := pr.dig (by omega) (by omega)
              have kl := sg_lt dk.1
              have o1 : (1 : Int32).toInt = 1 := rfl
              have ka : (a1 + 1).toInt = a1.toInt + (1 : Int32).toInt := tAdd (by omega) (by omega)
              have g_519 : (0 : Int) ≤ (I_300 o 6).toInt ∧ (I_300 o 6).toInt ≤ 1600 := hR_302.at0 ra 6 (by decide)
              have a_520 : ((I_300 o 6) + 1).toInt = (I_300 o 6).toInt + (1 : Int32).toInt := tAdd (by omega) (by omega)
              refine y_Model_pointAt hok hw ra (by first | omega | (intro h; omega) | exact Or.inl rfl | exact Or.inr rfl) hR_302 (fun r_521 u_522 u_523 => ⟨r_521, I_300, L, rfl, rfl, ?_⟩)
              have pr2 := u_523
              rw [hf_303 (o + 2) (by first | omega | (dsimp only; omega)), show I_300 o 3 = I0 o 3 from Int32.toInt_inj.mp (by omega), show I_300 o 6 = a1 from Int32.toInt_inj.mp (by omega)] at pr2
              have g_524 : (0 : Int) ≤ (I_300 o 6).toInt ∧ (I_300 o 6).toInt ≤ 1600 := hR_302.at0 ra 6 (by decide)
              have a_525 : ((I_300 o 6) + 1).toInt = (I_300 o 6).toInt + (1 : Int32).toInt := tAdd (by omega) (by omega)
              refine y_Model_sign hok hw ra (by first | omega | (intro h; omega) | exact Or.inl rfl | exact Or.inr rfl) hR_302 (fun r_526 u_527 u_528 => ⟨r_526, I_300, L, rfl, rfl, ?_⟩)
              have s1 := u_528
              rw [hf_303 (o + 2) (by first | omega | (dsimp only; omega)), show I_300 o 3 = I0 o 3 from Int32.toInt_inj.mp (by omega), show I_300 o 6 = a1 from Int32.toInt_inj.mp (by omega)] at s1
              have s1 := iEq s1
              have e48 : (48 : Int32).toInt = 48 := rfl
              have sb : (r_526 - 48).toInt = (r_526).toInt - (48 : Int32).toInt := tSub (by omega) (by omega)
              refine fun I_529 e_530 => ?_
              have hR_531 : RI R I_529 := hR_302.up0 (k := 9) ra (by decide) (Or.inr hz19) e_530 (i_lo _) (i_hi _)
              have hf_532 : Fm (fun c => c = o) I0 I_529 := hf_303.set (by first | rfl | omega | (dsimp only; omega)) e_530
              have t_533 : (I_529 o 3).toInt = (I_300 o 3).toInt := by rw [← e_530, q_u_k (by decide)]
              have t_534 : (I_529 o 4).toInt = (I_300 o 4).toInt := by rw [← e_530, q_u_k (by decide)]
              have t_535 : (I_529 o 6).toInt = (I_300 o 6).toInt := by rw [← e_530, q_u_k (by decide)]
              have t_536 : (I_529 o 7).toInt = (I_300 o 7).toInt := by rw [← e_530, q_u_k (by decide)]
              have t_537 : (I_529 o 8).toInt = (I_300 o 8).toInt := by rw [← e_530, q_u_k (by decide)]
              have t_538 : (I_529 o 9).toInt = (r_526 - 48).toInt := by rw [← e_530, q_u_at]
              have l_539 : (2 : Int32).toInt = 2 := rfl
              refine ⟨fun c_540 => ?_, fun c_540 => ?_⟩
              · have d_541 := iNe c_540
                unfold fModel_next_196
                have g_542 : (0 : Int) ≤ (I_529 o 6).toInt ∧ (I_529 o 6).toInt ≤ 1600 := hR_531.at0 ra 6 (by decide)
                have a_543 : ((I_529 o 6) + 1).toInt = (I_529 o 6).toInt + (1 : Int32).toInt := tAdd (by omega) (by omega)
                have a_544 : (((I_529 o 6) + 1) + r_521).toInt = ((I_529 o 6) + 1).toInt + r_521.toInt := tAdd (by omega) (by omega)
                refine fun I_545 e_546 => ?_
                have hR_547 : RI R I_545 := hR_531.up0 (k := 7) ra (by decide) (Or.inr hz17) e_546 (show (0 : Int) ≤ (((I_529 o 6) + 1) + r_521).toInt by omega) (show (((I_529 o 6) + 1) + r_521).toInt ≤ (1601 : Int) by omega)
                have hf_548 : Fm (fun c => c = o) I0 I_545 := hf_532.set (by first | rfl | omega | (dsimp only; omega)) e_546
                have t_549 : (I_545 o 3).toInt = (I_529 o 3).toInt := by rw [← e_546, q_u_k (by decide)]
                have t_550 : (I_545 o 4).toInt = (I_529 o 4).toInt := by rw [← e_546, q_u_k (by decide)]
                have t_551 : (I_545 o 6).toInt = (I_529 o 6).toInt := by rw [← e_546, q_u_k (by decide)]
                have t_552 : (I_545 o 7).toInt = (((I_529 o 6) + 1) + r_521).toInt := by rw [← e_546, q_u_at]
                have t_553 : (I_545 o 8).toInt = (I_529 o 8).toInt := by rw [← e_546, q_u_k (by decide)]
                have t_554 : (I_545 o 9).toInt = (I_529 o 9).toInt := by rw [← e_546, q_u_k (by decide)]
                have l_555 : (5 : Int32).toInt = 5 := rfl
                refine fun I_556 e_557 => ?_
                have hR_558 : RI R I_556 := hR_547.up0 (k := 8) ra (by decide) (Or.inr hz18) e_557 (show (0 : Int) ≤ (5 : Int32).toInt by omega) (show (5 : Int32).toInt ≤ (6 : Int) by omega)
                have hf_559 : Fm (fun c => c = o) I0 I_556 := hf_548.set (by first | rfl | omega | (dsimp only; omega)) e_557
                have t_560 : (I_556 o 3).toInt = (I_545 o 3).toInt := by rw [← e_557, q_u_k (by decide)]
                have t_561 : (I_556 o 4).toInt = (I_545 o 4).toInt := by rw [← e_557, q_u_k (by decide)]
                have t_562 : (I_556 o 6).toInt = (I_545 o 6).toInt := by rw [← e_557, q_u_k (by decide)]
                have t_563 : (I_556 o 7).toInt = (I_545 o 7).toInt := by rw [← e_557, q_u_k (by decide)]
                have t_564 : (I_556 o 8).toInt = (5 : Int32).toInt := by rw [← e_557, q_u_at]
                have t_565 : (I_556 o 9).toInt = (I_545 o 9).toInt := by rw [← e_557, q_u_k (by decide)]
                exact (hp _ _ hR_558 hf_559 (by first | omega | (intro h; omega) | exact Or.inl rfl | exact Or.inr rfl) (by first | omega | (intro h; omega) | exact Or.inl rfl | exact Or.inr rfl) (by first | omega | (intro h; omega) | exact Or.inl rfl | exact Or.inr rfl) (by intro _; omega) (by first | omega | (intro h; omega) | exact Or.inl rfl | exact Or.inr rfl) (by first | omega | (intro h; omega) | exact Or.inl rfl | exact Or.inr rfl) (by intro h; omega) (by unfold MTk; refine ⟨by omega, fun h => by omega⟩))
              · have d_566 := iEq c_540
                have tw := pr2.two (by omega)
                have kl2 := sg_lt tw.2.2.1
                have ka2 : (a1 + 1 + 1).toInt = (a1 + 1).toInt + (1 : Int32).toInt := tAdd (by omega) (by omega)
                have g_567 : (0 : Int) ≤ (I_529 o 6).toInt ∧ (I_529 o 6).toInt ≤ 1600 := hR_531.at0 ra 6 (by decide)
                have a_568 : ((I_529 o 6) + 2).toInt = (I_529 o 6).toInt + (2 : Int32).toInt := tAdd (by omega) (by omega)
                refine y_Model_sign hok hw ra (by first | omega | (intro h; omega) | exact Or.inl rfl | exact Or.inr rfl) hR_531 (fun r_569 u_570 u_571 => ⟨r_569, I_529, L, rfl, rfl, ?_⟩)
                have s2 := u_571
                rw [hf_532 (o + 2) (by first | omega | (dsimp only; omega)), show I_529 o 3 = I0 o 3 from Int32.toInt_inj.mp (by omega), show I_529 o 6 = a1 from Int32.toInt_inj.mp (by omega), show a1 + 2 = a1 + 1 + 1 by rw [Int32.add_assoc]; rfl] at s2
                have s2 := iEq s2
                have nn := mul10 (v := I_529 o 9) (c := r_569) (by omega) (by omega) (by omega) (by omega)
                refine fun I_572 e_573 => ?_
                have hR_574 : RI R I_572 := hR_531.up0 (k := 9) ra (by decide) (Or.inr hz19) e_573 (i_lo _) (i_hi _)
                have hf_575 : Fm (fun c => c = o) I0 I_572 := hf_532.set (by first | rfl | omega | (dsimp only; omega)) e_573
                have t_576 : (I_572 o 3).toInt = (I_529 o 3).toInt := by rw [← e_573, q_u_k (by decide)]
                have t_577 : (I_572 o 4).toInt = (I_529 o 4).toInt := by rw [← e_573, q_u_k (by decide)]
                have t_578 : (I_572 o 6).toInt = (I_529 o 6).toInt := by rw [← e_573, q_u_k (by decide)]
                have t_579 : (I_572 o 7).toInt = (I_529 o 7).toInt := by rw [← e_573, q_u_k (by decide)]
                have t_580 : (I_572 o 8).toInt = (I_529 o 8).toInt := by rw [← e_573, q_u_k (by decide)]
                have t_581 : (I_572 o 9).toInt = (((10 * (I_529 o 9)) + r_569) - 48).toInt := by rw [← e_573, q_u_at]
                unfold fModel_next_196
                have g_582 : (0 : Int) ≤ (I_572 o 6).toInt ∧ (I_572 o 6).toInt ≤ 1600 := hR_574.at0 ra 6 (by decide)
                have a_583 : ((I_572 o 6) + 1).toInt = (I_572 o 6).toInt + (1 : Int32).toInt := tAdd (by omega) (by omega)
                have a_584 : (((I_572 o 6) + 1) + r_521).toInt = ((I_572 o 6) + 1).toInt + r_521.toInt := tAdd (by omega) (by omega)
                refine fun I_585 e_586 => ?_
                have hR_587 : RI R I_585 := hR_574.up0 (k := 7) ra (by decide) (Or.inr hz17) e_586 (show (0 : Int) ≤ (((I_572 o 6) + 1) + r_521).toInt by omega) (show (((I_572 o 6) + 1) + r_521).toInt ≤ (1601 : Int) by omega)
                have hf_588 : Fm (fun c => c = o) I0 I_585 := hf_575.set (by first | rfl | omega | (dsimp only; omega)) e_586
                have t_589 : (I_585 o 3).toInt = (I_572 o 3).toInt := by rw [← e_586, q_u_k (by decide)]
                have t_590 : (I_585 o 4).toInt = (I_572 o 4).toInt := by rw [← e_586, q_u_k (by decide)]
                have t_591 : (I_585 o 6).toInt = (I_572 o 6).toInt := by rw [← e_586, q_u_k (by decide)]
                have t_592 : (I_585 o 7).toInt = (((I_572 o 6) + 1) + r_521).toInt := by rw [← e_586, q_u_at]
                have t_593 : (I_585 o 8).toInt = (I_572 o 8).toInt := by rw [← e_586, q_u_k (by decide)]
                have t_594 : (I_585 o 9).toInt = (I_572 o 9).toInt := by rw [← e_586, q_u_k (by decide)]
                have l_595 : (5 : Int32).toInt = 5 := rfl
                refine fun I_596 e_597 => ?_
                have hR_598 : RI R I_596 := hR_587.up0 (k := 8) ra (by decide) (Or.inr hz18) e_597 (show (0 : Int) ≤ (5 : Int32).toInt by omega) (show (5 : Int32).toInt ≤ (6 : Int) by omega)
                have hf_599 : Fm (fun c => c = o) I0 I_596 := hf_588.set (by first | rfl | omega | (dsimp only; omega)) e_597
                have t_600 : (I_596 o 3).toInt = (I_585 o 3).toInt := by rw [← e_597, q_u_k (by decide)]
                have t_601 : (I_596 o 4).toInt = (I_585 o 4).toInt := by rw [← e_597, q_u_k (by decide)]
                have t_602 : (I_596 o 6).toInt = (I_585 o 6).toInt := by rw [← e_597, q_u_k (by decide)]
                have t_603 : (I_596 o 7).toInt = (I_585 o 7).toInt := by rw [← e_597, q_u_k (by decide)]
                have t_604 : (I_596 o 8).toInt = (5 : Int32).toInt := by rw [← e_597, q_u_at]
                have t_605 : (I_596 o 9).toInt = (I_585 o 9).toInt := by rw [← e_597, q_u_k (by decide)]
                exact (hp _ _ hR_598 hf_599 (by first | omega | (intro h; omega) | exact Or.inl rfl | exact Or.inr rfl) (by first | omega | (intro h; omega) | exact Or.inl rfl | exact Or.inr rfl) (by first | omega | (intro h; omega) | exact Or.inl rfl | exact Or.inr rfl) (by intro _; omega) (by first | omega | (intro h; omega) | exact Or.inl rfl | exact Or.inr rfl) (by first | omega | (intro h; omega) | exact Or.inl rfl | exact Or.inr rfl) (by intro h; omega) (by unfold MTk; refine ⟨by omega, fun h => by omega⟩))
      · have d_606 := iNlt c_312
        have l_607 : (0 : Int32).toInt = 0 := rfl
        refine fun I_608 e_609 => ?_
        have hR_610 : RI R I_608 := hR_302.up0 (k := 8) ra (by decide) (Or.inr hz18) e_609 (show (0 : Int) ≤ (0 : Int32).toInt by omega) (show (0 : Int32).toInt ≤ (6 : Int) by omega)
        have hf_611 : Fm (fun c => c = o) I0 I_608 := hf_303.set (by first | rfl | omega | (dsimp only; omega)) e_609
        have t_612 : (I_608 o 3).toInt = (I_300 o 3).toInt := by rw [← e_609, q_u_k (by decide)]
        have t_613 : (I_608 o 4).toInt = (I_300 o 4).toInt := by rw [← e_609, q_u_k (by decide)]
        have t_614 : (I_608 o 6).toInt = (I_300 o 6).toInt := by rw [← e_609, q_u_k (by decide)]
        have t_615 : (I_608 o 7).toInt = (I_300 o 7).toInt := by rw [← e_609, q_u_k (by decide)]
        have t_616 : (I_608 o 8).toInt = (0 : Int32).toInt := by rw [← e_609, q_u_at]
        have t_617 : (I_608 o 9).toInt = (I_300 o 9).toInt := by rw [← e_609, q_u_k (by decide)]
        have g_618 : (0 : Int) ≤ (I_608 o 3).toInt ∧ (I_608 o 3).toInt ≤ 1600 := hR_610.at0 ra 3 (by decide)
        refine fun I_619 e_620 => ?_
        have hR_621 : RI R I_619 := hR_610.up0 (k := 6) ra (by decide) (Or.inr hz16) e_620 (show (0 : Int) ≤ (I_608 o 3).toInt by omega) (show (I_608 o 3).toInt ≤ (1600 : Int) by omega)
        have hf_622 : Fm (fun c => c = o) I0 I_619 := hf_611.set (by first | rfl | omega | (dsimp only; omega)) e_620
        have t_623 : (I_619 o 3).toInt = (I_608 o 3).toInt := by rw [← e_620, q_u_k (by decide)]
        have t_624 : (I_619 o 4).toInt = (I_608 o 4).toInt := by rw [← e_620, q_u_k (by decide)]
        have t_625 : (I_619 o 6).toInt = (I_608 o 3).toInt := by rw [← e_620, q_u_at]
        have t_626 : (I_619 o 7).toInt = (I_608 o 7).toInt := by rw [← e_620, q_u_k (by decide)]
        have t_627 : (I_619 o 8).toInt = (I_608 o 8).toInt := by rw [← e_620, q_u_k (by decide)]
        have t_628 : (I_619 o 9).toInt = (I_608 o 9).toInt := by rw [← e_620, q_u_k (by decide)]
        have g_629 : (0 : Int) ≤ (I_619 o 3).toInt ∧ (I_619 o 3).toInt ≤ 1600 := hR_621.at0 ra 3 (by decide)
        refine fun I_630 e_631 => ?_
        have hR_632 : RI R I_630 := hR_621.up0 (k := 7) ra (by decide) (Or.inr hz17) e_631 (show (0 : Int) ≤ (I_619 o 3).toInt by omega) (show (I_619 o 3).toInt ≤ (1601 : Int) by omega)
        have hf_633 : Fm (fun c => c = o) I0 I_630 := hf_622.set (by first | rfl | omega | (dsimp only; omega)) e_631
        have t_634 : (I_630 o 3).toInt = (I_619 o 3).toInt := by rw [← e_631, q_u_k (by decide)]
        have t_635 : (I_630 o 4).toInt = (I_619 o 4).toInt := by rw [← e_631, q_u_k (by decide)]
        have t_636 : (I_630 o 6).toInt = (I_619 o 6).toInt := by rw [← e_631, q_u_k (by decide)]
        have t_637 : (I_630 o 7).toInt = (I_619 o 3).toInt := by rw [← e_631, q_u_at]
        have t_638 : (I_630 o 8).toInt = (I_619 o 8).toInt := by rw [← e_631, q_u_k (by decide)]
        have t_639 : (I_630 o 9).toInt = (I_619 o 9).toInt := by rw [← e_631, q_u_k (by decide)]
        exact (hp _ _ hR_632 hf_633 (by first | omega | (intro h; omega) | exact Or.inl rfl | exact Or.inr rfl) (by first | omega | (intro h; omega) | exact Or.inl rfl | exact Or.inr rfl) (by first | omega | (intro h; omega) | exact Or.inl rfl | exact Or.inr rfl) (by intro _; omega) (by first | omega | (intro h; omega) | exact Or.inl rfl | exact Or.inr rfl) (by first | omega | (intro h; omega) | exact Or.inl rfl | exact Or.inr rfl) (by intro h; omega) (by unfold MTk; refine ⟨by omega, fun h => by omega⟩))
    · have d_640 := iNle c_291
      have g_641 : (0 : Int) ≤ (I o 6).toInt ∧ (I o 6).toInt ≤ 1600 := hR.at0 ra 6 (by decide)
      refine y_Model_sign hok hw ra (by first | omega | (intro h; omega) | exact Or.inl rfl | exact Or.inr rfl) hR (fun r_642 u_643 u_644 => ⟨r_642, I, L, rfl, rfl, ?_⟩)
      have l_645 : (32 : Int32).toInt = 32 := rfl
      refine ⟨fun c_646 => ?_, fun c_646 => ?_⟩
      · have d_647 := iEq c_646
        unfold fModel_next_45
        have g_648 : (0 : Int) ≤ (I o 6).toInt ∧ (I o 6).toInt ≤ 1600 := hR.at0 ra 6 (by decide)
        have l_649 : (1 : Int32).toInt = 1 := rfl
        have a_650 : ((I o 6) + 1).toInt = (I o 6).toInt + (1 : Int32).toInt := tAdd (by omega) (by omega)
        refine fun I_651 e_652 => ?_
        have hR_653 : RI R I_651 := hR.up0 (k := 6) ra (by decide) (Or.inr hz16) e_652 (show (0 : Int) ≤ ((I o 6) + 1).toInt by omega) (show ((I o 6) + 1).toInt ≤ (1600 : Int) by omega)
        have hf_654 : Fm (fun c => c = o) I0 I_651 := hf.set (by first | rfl | omega | (dsimp only; omega)) e_652
        have t_655 : (I_651 o 3).toInt = (I o 3).toInt := by rw [← e_652, q_u_k (by decide)]
        have t_656 : (I_651 o 4).toInt = (I o 4).toInt := by rw [← e_652, q_u_k (by decide)]
        have t_657 : (I_651 o 6).toInt = ((I o 6) + 1).toInt := by rw [← e_652, q_u_at]
        have t_658 : (I_651 o 7).toInt = (I o 7).toInt := by rw [← e_652, q_u_k (by decide)]
        have t_659 : (I_651 o 8).toInt = (I o 8).toInt := by rw [← e_652, q_u_k (by decide)]
        have t_660 : (I_651 o 9).toInt = (I o 9).toInt := by rw [← e_652, q_u_k (by decide)]
        exact ih hR_653 hf_654 (by first | omega | (intro h; omega) | exact Or.inl rfl | exact Or.inr rfl) (by first | omega | (intro h; omega) | exact Or.inl rfl | exact Or.inr rfl) (by first | omega | (intro h; omega) | exact Or.inl rfl | exact Or.inr rfl) (by first | omega | (intro h; omega) | exact Or.inl rfl | exact Or.inr rfl) (by omega)
      · have d_661 := iNe c_646
        have g_662 : (0 : Int) ≤ (I o 6).toInt ∧ (I o 6).toInt ≤ 1600 := hR.at0 ra 6 (by decide)
        refine y_Model_sign hok hw ra (by first | omega | (intro h; omega) | exact Or.inl rfl | exact Or.inr rfl) hR (fun r_663 u_664 u_665 => ⟨r_663, I, L, rfl, rfl, ?_⟩)
        have l_666 : (10 : Int32).toInt = 10 := rfl
        refine ⟨fun c_667 => ?_, fun c_667 => ?_⟩
        · have d_668 := iNe c_667
          unfold fModel_next_58
          have g_669 : (0 : Int) ≤ (I o 6).toInt ∧ (I o 6).toInt ≤ 1600 := hR.at0 ra 6 (by decide)
          refine y_Model_sign hok hw ra (by first | omega | (intro h; omega) | exact Or.inl rfl | exact Or.inr rfl) hR (fun r_670 u_671 u_672 => ⟨r_670, I, L, rfl, rfl, ?_⟩)
          obtain ⟨a1, ha1⟩ : ∃ a, a = I o 6 := ⟨_, rfl⟩
          have hA : a1.toInt = (I o 6).toInt := by rw [ha1]
          have sc := u_672
          rw [hf (o + 2) (by first | omega | (dsimp only; omega)), show I o 3 = I0 o 3 from Int32.toInt_inj.mp (by omega), show I o 6 = a1 from Int32.toInt_inj.mp (by omega)] at sc
          have g_673 : (0 : Int) ≤ (I o 6).toInt ∧ (I o 6).toInt ≤ 1600 := hR.at0 ra 6 (by decide)
          have l_674 : (1 : Int32).toInt = 1 := rfl
          have a_675 : ((I o 6) + 1).toInt = (I o 6).toInt + (1 : Int32).toInt := tAdd (by omega) (by omega)
          refine fun I_676 e_677 => ?_
          have hR_678 : RI R I_676 := hR.up0 (k := 7) ra (by decide) (Or.inr hz17) e_677 (show (0 : Int) ≤ ((I o 6) + 1).toInt by omega) (show ((I o 6) + 1).toInt ≤ (1601 : Int) by omega)
          have hf_679 : Fm (fun c => c = o) I0 I_676 := hf.set (by first | rfl | omega | (dsimp only; omega)) e_677
          have t_680 : (I_676 o 3).toInt = (I o 3).toInt := by rw [← e_677, q_u_k (by decide)]
          have t_681 : (I_676 o 4).toInt = (I o 4).toInt := by rw [← e_677, q_u_k (by decide)]
          have t_682 : (I_676 o 6).toInt = (I o 6).toInt := by rw [← e_677, q_u_k (by decide)]
          have t_683 : (I_676 o 7).toInt = ((I o 6) + 1).toInt := by rw [← e_677, q_u_at]
          have t_684 : (I_676 o 8).toInt = (I o 8).toInt := by rw [← e_677, q_u_k (by decide)]
          have t_685 : (I_676 o 9).toInt = (I o 9).toInt := by rw [← e_677, q_u_k (by decide)]
          have g_686 : (0 : Int) ≤ (I_676 o 6).toInt ∧ (I_676 o 6).toInt ≤ 1600 := hR_678.at0 ra 6 (by decide)
          have g_687 : (0 : Int) ≤ (I_676 o 3).toInt ∧ (I_676 o 3).toInt ≤ 1600 := hR_678.at0 ra 3 (by decide)
          refine ⟨fun c_688 => ?_, fun c_688 => ?_⟩
          · have d_689 := iLt c_688
            have l_690 : (0 : Int32).toInt = 0 := rfl
            refine ⟨fun c_691 => ?_, fun c_691 => ?_⟩
            · have d_692 := iNe c_691
              unfold fModel_next_216
              refine y_Model_isLetter hok hR_678 (fun r_693 u_694 u_695 => ⟨r_693, I_676, L, rfl, rfl, ?_⟩)
              have b_696 : 0 ≤ r_693.toInt ∧ r_693.toInt ≤ 1 := u_694.rg
              refine ⟨fun c_697 => ?_, fun c_697 => ?_⟩
              · have d_698 := iEq c_697
                refine y_Model_isDigit hok hR_678 (fun r_699 u_700 u_701 u_702 => ⟨r_699, I_676, L, rfl, rfl, ?_⟩)
                have b_703 : 0 ≤ r_699.toInt ∧ r_699.toInt ≤ 1 := u_700.rg
                refine ⟨fun c_704 => ?_, fun c_704 => ?_⟩
                · have d_705 := iEq c_704
                  refine y_Model_isSign hok hR_678 (fun r_706 u_707 => ⟨r_706, I_676, L, rfl, rfl, ?_⟩)
                  have b_708 : 0 ≤ r_706.toInt ∧ r_706.toInt ≤ 1 := u_707.rg
                  refine ⟨fun c_709 => ?_, fun c_709 => ?_⟩
                  · have d_710 := iEq c_709
                    refine fun I_711 e_712 => ?_
                    have hR_713 : RI R I_711 := hR_678.up0 (k := 8) ra (by decide) (Or.inr hz18) e_712 (show (0 : Int) ≤ (1 : Int32).toInt by omega) (show (1 : Int32).toInt ≤ (6 : Int) by omega)
                    have hf_714 : Fm (fun c => c = o) I0 I_711 := hf_679.set (by first | rfl | omega | (dsimp only; omega)) e_712
                    have t_715 : (I_711 o 3).toInt = (I_676 o 3).toInt := by rw [← e_712, q_u_k (by decide)]
                    have t_716 : (I_711 o 4).toInt = (I_676 o 4).toInt := by rw [← e_712, q_u_k (by decide)]
                    have t_717 : (I_711 o 6).toInt = (I_676 o 6).toInt := by rw [← e_712, q_u_k (by decide)]
                    have t_718 : (I_711 o 7).toInt = (I_676 o 7).toInt := by rw [← e_712, q_u_k (by decide)]
                    have t_719 : (I_711 o 8).toInt = (1 : Int32).toInt := by rw [← e_712, q_u_at]
                    have t_720 : (I_711 o 9).toInt = (I_676 o 9).toInt := by rw [← e_712, q_u_k (by decide)]
                    exact (hp _ _ hR_713 hf_714 (by first | omega | (intro h; omega) | exact Or.inl rfl | exact Or.inr rfl) (by first | omega | (intro h; omega) | exact Or.inl rfl | exact Or.inr rfl) (by first | omega | (intro h; omega) | exact Or.inl rfl | exact Or.inr rfl) (by intro _; omega) (by first | omega | (intro h; omega) | exact Or.inl rfl | exact Or.inr rfl) (by first | omega | (intro h; omega) | exact Or.inl rfl | exact Or.inr rfl) (by intro h; omega) (by unfold MTk; refine ⟨by omega, fun h => by omega⟩))
                  · have d_721 := iNe c_709
                    have l_722 : (6 : Int32).toInt = 6 := rfl
                    refine fun I_723 e_724 => ?_
                    have hR_725 : RI R I_723 := hR_678.up0 (k := 8) ra (by decide) (Or.inr hz18) e_724 (show (0 : Int) ≤ (6 : Int32).toInt by omega) (show (6 : Int32).toInt ≤ (6 : Int) by omega)
                    have hf_726 : Fm (fun c => c = o) I0 I_723 := hf_679.set (by first | rfl | omega | (dsimp only; omega)) e_724
                    have t_727 : (I_723 o 3).toInt = (I_676 o 3).toInt := by rw [← e_724, q_u_k (by decide)]
                    have t_728 : (I_723 o 4).toInt = (I_676 o 4).toInt := by rw [← e_724, q_u_k (by decide)]
                    have t_729 : (I_723 o 6).toInt = (I_676 o 6).toInt := by rw [← e_724, q_u_k (by decide)]
                    have t_730 : (I_723 o 7).toInt = (I_676 o 7).toInt := by rw [← e_724, q_u_k (by decide)]
                    have t_731 : (I_723 o 8).toInt = (6 : Int32).toInt := by rw [← e_724, q_u_at]
                    have t_732 : (I_723 o 9).toInt = (I_676 o 9).toInt := by rw [← e_724, q_u_k (by decide)]
                    exact (hp _ _ hR_725 hf_726 (by first | omega | (intro h; omega) | exact Or.inl rfl | exact Or.inr rfl) (by first | omega | (intro h; omega) | exact Or.inl rfl | exact Or.inr rfl) (by first | omega | (intro h; omega) | exact Or.inl rfl | exact Or.inr rfl) (by intro _; omega) (by first | omega | (intro h; omega) | exact Or.inl rfl | exact Or.inr rfl) (by first | omega | (intro h; omega) | exact Or.inl rfl | exact Or.inr rfl) (by intro h; omega) (by unfold MTk; refine ⟨by omega, fun h => by omega⟩))
                · have d_733 := iNe c_704
                  have dc := u_701 (by omega)
                  refine fun I_734 e_735 => ?_
                  have hR_736 : RI R I_734 := hR_678.up0 (k := 9) ra (by decide) (Or.inr hz19) e_735 (i_lo _) (i_hi _)
                  have hf_737 : Fm (fun c => c = o) I0 I_734 := hf_679.set (by first | rfl | omega | (dsimp only; omega)) e_735
                  have t_738 : (I_734 o 3).toInt = (I_676 o 3).toInt := by rw [← e_735, q_u_k (by decide)]
                  have t_739 : (I_734 o 4).toInt = (I_676 o 4).toInt := by rw [← e_735, q_u_k (by decide)]
                  have t_740 : (I_734 o 6).toInt = (I_676 o 6).toInt := by rw [← e_735, q_u_k (by decide)]
                  have t_741 : (I_734 o 7).toInt = (I_676 o 7).toInt := by rw [← e_735, q_u_k (by decide)]
                  have t_742 : (I_734 o 8).toInt = (I_676 o 8).toInt := by rw [← e_735, q_u_k (by decide)]
                  have t_743 : (I_734 o 9).toInt = (0 : Int32).toInt := by rw [← e_735, q_u_at]
                  have g_744 : (0 : Int) ≤ (I_734 o 6).toInt ∧ (I_734 o 6).toInt ≤ 1600 := hR_736.at0 ra 6 (by decide)
                  refine fun I_745 e_746 => ?_
                  have hR_747 : RI R I_745 := hR_736.up0 (k := 7) ra (by decide) (Or.inr hz17) e_746 (show (0 : Int) ≤ (I_734 o 6).toInt by omega) (show (I_734 o 6).toInt ≤ (1601 : Int) by omega)
                  have hf_748 : Fm (fun c => c = o) I0 I_745 := hf_737.set (by first | rfl | omega | (dsimp only; omega)) e_746
                  have t_749 : (I_745 o 3).toInt = (I_734 o 3).toInt := by rw [← e_746, q_u_k (by decide)]
                  have t_750 : (I_745 o 4).toInt = (I_734 o 4).toInt := by rw [← e_746, q_u_k (by decide)]
                  have t_751 : (I_745 o 6).toInt = (I_734 o 6).toInt := by rw [← e_746, q_u_k (by decide)]
                  have t_752 : (I_745 o 7).toInt = (I_734 o 6).toInt := by rw [← e_746, q_u_at]
                  have t_753 : (I_745 o 8).toInt = (I_734 o 8).toInt := by rw [← e_746, q_u_k (by decide)]
                  have t_754 : (I_745 o 9).toInt = (I_734 o 9).toInt := by rw [← e_746, q_u_k (by decide)]
                  exact yModel_next_363 (I0 := I0) (L0 := L0) hok hw ra hz16 hz17 hz18 hz19 hZ hR0 hq0 hp  _ hR_747 hf_748 (by first | omega | (intro h; omega) | exact Or.inl rfl | exact Or.inr rfl) (by first | omega | (intro h; omega) | exact Or.inl rfl | exact Or.inr rfl) (by first | exact sgLo sc (by omega) (by omega) | exact sgLo (a := I o 6) rfl (by omega) (by omega)) (by first | exact sgHi sc (by omega) (by omega) | exact sgHi (a := I o 6) rfl (by omega) (by omega)) (by first | omega | (intro h; omega) | exact Or.inl rfl | exact Or.inr rfl) (Nat.lt_succ_self _)
              · have d_755 := iNe c_697
                exact yModel_next_223 (I0 := I0) (L0 := L0) hok hw ra hz16 hz17 hz18 hz19 hZ hR0 hq0 hp  _ hR_678 hf_679 (by first | omega | (intro h; omega) | exact Or.inl rfl | exact Or.inr rfl) (by first | omega | (intro h; omega) | exact Or.inl rfl | exact Or.inr rfl) (by first | omega | (intro h; omega) | exact Or.inl rfl | exact Or.inr rfl) (Nat.lt_succ_self _)
            · have d_756 := iEq c_691
              have l_757 : (112 : Int32).toInt = 112 := rfl
              refine ⟨fun c_758 => ?_, fun c_758 => ?_⟩
              · have d_759 := iNe c_758
                unfold fModel_next_216
                refine y_Model_isLetter hok hR_678 (fun r_760 u_761 u_762 => ⟨r_760, I_676, L, rfl, rfl, ?_⟩)
                have b_763 : 0 ≤ r_760.toInt ∧ r_760.toInt ≤ 1 := u_761.rg
                refine ⟨fun c_764 => ?_, fun c_764 => ?_⟩
                · have d_765 := iEq c_764
                  refine y_Model_isDigit hok hR_678 (fun r_766 u_767 u_768 u_769 => ⟨r_766, I_676, L, rfl, rfl, ?_⟩)
                  have b_770 : 0 ≤ r_766.toInt ∧ r_766.toInt ≤ 1 := u_767.rg
                  refine ⟨fun c_771 => ?_, fun c_771 => ?_⟩
                  · have d_772 := iEq c_771
                    refine y_Model_isSign hok hR_678 (fun r_773 u_774 => ⟨r_773, I_676, L, rfl, rfl, ?_⟩)
                    have b_775 : 0 ≤ r_773.toInt ∧ r_773.toInt ≤ 1 := u_774.rg
                    refine ⟨fun c_776 => ?_, fun c_776 => ?_⟩
                    · have d_777 := iEq c_776
                      refine fun I_778 e_779 => ?_
                      have hR_780 : RI R I_778 := hR_678.up0 (k := 8) ra (by decide) (Or.inr hz18) e_779 (show (0 : Int) ≤ (1 : Int32).toInt by omega) (show (1 : Int32).toInt ≤ (6 : Int) by omega)
                      have hf_781 : Fm (fun c => c = o) I0 I_778 := hf_679.set (by first | rfl | omega | (dsimp only; omega)) e_779
                      have t_782 : (I_778 o 3).toInt = (I_676 o 3).toInt := by rw [← e_779, q_u_k (by decide)]
                      have t_783 : (I_778 o 4).toInt = (I_676 o 4).toInt := by rw [← e_779, q_u_k (by decide)]
                      have t_784 : (I_778 o 6).toInt = (I_676 o 6).toInt := by rw [← e_779, q_u_k (by decide)]
                      have t_785 : (I_778 o 7).toInt = (I_676 o 7).toInt := by rw [← e_779, q_u_k (by decide)]
                      have t_786 : (I_778 o 8).toInt = (1 : Int32).toInt := by rw [← e_779, q_u_at]
                      have t_787 : (I_778 o 9).toInt = (I_676 o 9).toInt := by rw [← e_779, q_u_k (by decide)]
                      exact (hp _ _ hR_780 hf_781 (by first | omega | (intro h; omega) | exact Or.inl rfl | exact Or.inr rfl) (by first | omega | (intro h; omega) | exact Or.inl rfl | exact Or.inr rfl) (by first | omega | (intro h; omega) | exact Or.inl rfl | exact Or.inr rfl) (by intro _; omega) (by first | omega | (intro h; omega) | exact Or.inl rfl | exact Or.inr rfl) (by first | omega | (intro h; omega) | exact Or.inl rfl | exact Or.inr rfl) (by intro h; omega) (by unfold MTk; refine ⟨by omega, fun h => by omega⟩))
                    · have d_788 := iNe c_776
                      have l_789 : (6 : Int32).toInt = 6 := rfl
                      refine fun I_790 e_791 => ?_
                      have hR_792 : RI R I_790 := hR_678.up0 (k := 8) ra (by decide) (Or.inr hz18) e_791 (show (0 : Int) ≤ (6 : Int32).toInt by omega) (show (6 : Int32).toInt ≤ (6 : Int) by omega)
                      have hf_793 : Fm (fun c => c = o) I0 I_790 := hf_679.set (by first | rfl | omega | (dsimp only; omega)) e_791
                      have t_794 : (I_790 o 3).toInt = (I_676 o 3).toInt := by rw [← e_791, q_u_k (by decide)]
                      have t_795 : (I_790 o 4).toInt = (I_676 o 4).toInt := by rw [← e_791, q_u_k (by decide)]
                      have t_796 : (I_790 o 6).toInt = (I_676 o 6).toInt := by rw [← e_791, q_u_k (by decide)]
                      have t_797 : (I_790 o 7).toInt = (I_676 o 7).toInt := by rw [← e_791, q_u_k (by decide)]
                      have t_798 : (I_790 o 8).toInt = (6 : Int32).toInt := by rw [← e_791, q_u_at]
                      have t_799 : (I_790 o 9).toInt = (I_676 o 9).toInt := by rw [← e_791, q_u_k (by decide)]
                      exact (hp _ _ hR_792 hf_793 (by first | omega | (intro h; omega) | exact Or.inl rfl | exact Or.inr rfl) (by first | omega | (intro h; omega) | exact Or.inl rfl | exact Or.inr rfl) (by first | omega | (intro h; omega) | exact Or.inl rfl | exact Or.inr rfl) (by intro _; omega) (by first | omega | (intro h; omega) | exact Or.inl rfl | exact Or.inr rfl) (by first | omega | (intro h; omega) | exact Or.inl rfl | exact Or.inr rfl) (by intro h; omega) (by unfold MTk; refine ⟨by omega, fun h => by omega⟩))
                  · have d_800 := iNe c_771
                    have dc := u_768 (by omega)
                    refine fun I_801 e_802 => ?_
                    have hR_803 : RI R I_801 := hR_678.up0 (k := 9) ra (by decide) (Or.inr hz19) e_802 (i_lo _) (i_hi _)
                    have hf_804 : Fm (fun c => c = o) I0 I_801 := hf_679.set (by first | rfl | omega | (dsimp only; omega)) e_802
                    have t_805 : (I_801 o 3).toInt = (I_676 o 3).toInt := by rw [← e_802, q_u_k (by decide)]
                    have t_806 : (I_801 o 4).toInt = (I_676 o 4).toInt := by rw [← e_802, q_u_k (by decide)]
                    have t_807 : (I_801 o 6).toInt = (I_676 o 6).toInt := by rw [← e_802, q_u_k (by decide)]
                    have t_808 : (I_801 o 7).toInt = (I_676 o 7).toInt := by rw [← e_802, q_u_k (by decide)]
                    have t_809 : (I_801 o 8).toInt = (I_676 o 8).toInt := by rw [← e_802, q_u_k (by decide)]
                    have t_810 : (I_801 o 9).toInt = (0 : Int32).toInt := by rw [← e_802, q_u_at]
                    have g_811 : (0 : Int) ≤ (I_801 o 6).toInt ∧ (I_801 o 6).toInt ≤ 1600 := hR_803.at0 ra 6 (by decide)
                    refine fun I_812 e_813 => ?_
                    have hR_814 : RI R I_812 := hR_803.up0 (k := 7) ra (by decide) (Or.inr hz17) e_813 (show (0 : Int) ≤ (I_801 o 6).toInt by omega) (show (I_801 o 6).toInt ≤ (1601 : Int) by omega)
                    have hf_815 : Fm (fun c => c = o) I0 I_812 := hf_804.set (by first | rfl | omega | (dsimp only; omega)) e_813
                    have t_816 : (I_812 o 3).toInt = (I_801 o 3).toInt := by rw [← e_813, q_u_k (by decide)]
                    have t_817 : (I_812 o 4).toInt = (I_801 o 4).toInt := by rw [← e_813, q_u_k (by decide)]
                    have t_818 : (I_812 o 6).toInt = (I_801 o 6).toInt := by rw [← e_813, q_u_k (by decide)]
                    have t_819 : (I_812 o 7).toInt = (I_801 o 6).toInt := by rw [← e_813, q_u_at]
                    have t_820 : (I_812 o 8).toInt = (I_801 o 8).toInt := by rw [← e_813, q_u_k (by decide)]
                    have t_821 : (I_812 o 9).toInt = (I_801 o 9).toInt := by rw [← e_813, q_u_k (by decide)]
                    exact yModel_next_363 (I0 := I0) (L0 := L0) hok hw ra hz16 hz17 hz18 hz19 hZ hR0 hq0 hp  _ hR_814 hf_815 (by first | omega | (intro h; omega) | exact Or.inl rfl | exact Or.inr rfl) (by first | omega | (intro h; omega) | exact Or.inl rfl | exact Or.inr rfl) (by first | exact sgLo sc (by omega) (by omega) | exact sgLo (a := I o 6) rfl (by omega) (by omega)) (by first | exact sgHi sc (by omega) (by omega) | exact sgHi (a := I o 6) rfl (by omega) (by omega)) (by first | omega | (intro h; omega) | exact Or.inl rfl | exact Or.inr rfl) (Nat.lt_succ_self _)
                · have d_822 := iNe c_764
                  exact yModel_next_223 (I0 := I0) (L0 := L0) hok hw ra hz16 hz17 hz18 hz19 hZ hR0 hq0 hp  _ hR_678 hf_679 (by first | omega | (intro h; omega) | exact Or.inl rfl | exact Or.inr rfl) (by first | omega | (intro h; omega) | exact Or.inl rfl | exact Or.inr rfl) (by first | omega | (intro h; omega) | exact Or.inl rfl | exact Or.inr rfl) (Nat.lt_succ_self _)
              · have d_823 := iEq c_758
                have g_824 : (0 : Int) ≤ (I_676 o 6).toInt ∧ (I_676 o 6).toInt ≤ 1600 := hR_678.at0 ra 6 (by decide)
                have a_825 : ((I_676 o 6) + 1).toInt = (I_676 o 6).toInt + (1 : Int32).toInt := tAdd (by omega) (by omega)
                refine y_Model_pointAt hok hw ra (by first | omega | (intro h; omega) | exact Or.inl rfl | exact Or.inr rfl) hR_678 (fun r_826 u_827 u_828 => ⟨r_826, I_676, L, rfl, rfl, ?_⟩)
                refine ⟨fun c_829 => ?_, fun c_829 => ?_⟩
                · have d_830 := iLe c_829
                  unfold fModel_next_216
                  refine y_Model_isLetter hok hR_678 (fun r_831 u_832 u_833 => ⟨r_831, I_676, L, rfl, rfl, ?_⟩)
                  have b_834 : 0 ≤ r_831.toInt ∧ r_831.toInt ≤ 1 := u_832.rg
                  refine ⟨fun c_835 => ?_, fun c_835 => ?_⟩
                  · have d_836 := iEq c_835
                    refine y_Model_isDigit hok hR_678 (fun r_837 u_838 u_839 u_840 => ⟨r_837, I_676, L, rfl, rfl, ?_⟩)
                    have b_841 : 0 ≤ r_837.toInt ∧ r_837.toInt ≤ 1 := u_838.rg
                    refine ⟨fun c_842 => ?_, fun c_842 => ?_⟩
                    · have d_843 := iEq c_842
                      refine y_Model_isSign hok hR_678 (fun r_844 u_845 => ⟨r_844, I_676, L, rfl, rfl, ?_⟩)
                      have b_846 : 0 ≤ r_844.toInt ∧ r_844.toInt ≤ 1 := u_845.rg
                      refine ⟨fun c_847 => ?_, fun c_847 => ?_⟩
                      · have d_848 := iEq c_847
                        refine fun I_849 e_850 => ?_
                        have hR_851 : RI R I_849 := hR_678.up0 (k := 8) ra (by decide) (Or.inr hz18) e_850 (show (0 : Int) ≤ (1 : Int32).toInt by omega) (show (1 : Int32).toInt ≤ (6 : Int) by omega)
                        have hf_852 : Fm (fun c => c = o) I0 I_849 := hf_679.set (by first | rfl | omega | (dsimp only; omega)) e_850
                        have t_853 : (I_849 o 3).toInt = (I_676 o 3).toInt := by rw [← e_850, q_u_k (by decide)]
                        have t_854 : (I_849 o 4).toInt = (I_676 o 4).toInt := by rw [← e_850, q_u_k (by decide)]
                        have t_855 : (I_849 o 6).toInt = (I_676 o 6).toInt := by rw [← e_850, q_u_k (by decide)]
                        have t_856 : (I_849 o 7).toInt = (I_676 o 7).toInt := by rw [← e_850, q_u_k (by decide)]
                        have t_857 : (I_849 o 8).toInt = (1 : Int32).toInt := by rw [← e_850, q_u_at]
                        have t_858 : (I_849 o 9).toInt = (I_676 o 9).toInt := by rw [← e_850, q_u_k (by decide)]
                        exact (hp _ _ hR_851 hf_852 (by first | omega | (intro h; omega) | exact Or.inl rfl | exact Or.inr rfl) (by first | omega | (intro h; omega) | exact Or.inl rfl | exact Or.inr rfl) (by first | omega | (intro h; omega) | exact Or.inl rfl | exact Or.inr rfl) (by intro _; omega) (by first | omega | (intro h; omega) | exact Or.inl rfl | exact Or.inr rfl) (by first | omega | (intro h; omega) | exact Or.inl rfl | exact Or.inr rfl) (by intro h; omega) (by unfold MTk; refine ⟨by omega, fun h => by omega⟩))
                      · have d_859 := iNe c_847
                        have l_860 : (6 : Int32).toInt = 6 := rfl
                        refine fun I_861 e_862 => ?_
                        have hR_863 : RI R I_861 := hR_678.up0 (k := 8) ra (by decide) (Or.inr hz18) e_862 (show (0 : Int) ≤ (6 : Int32).toInt by omega) (show (6 : Int32).toInt ≤ (6 : Int) by omega)
                        have hf_864 : Fm (fun c => c = o) I0 I_861 := hf_679.set (by first | rfl | omega | (dsimp only; omega)) e_862
                        have t_865 : (I_861 o 3).toInt = (I_676 o 3).toInt := by rw [← e_862, q_u_k (by decide)]
                        have t_866 : (I_861 o 4).toInt = (I_676 o 4).toInt := by rw [← e_862, q_u_k (by decide)]
                        have t_867 : (I_861 o 6).toInt = (I_676 o 6).toInt := by rw [← e_862, q_u_k (by decide)]
                        have t_868 : (I_861 o 7).toInt = (I_676 o 7).toInt := by rw [← e_862, q_u_k (by decide)]
                        have t_869 : (I_861 o 8).toInt = (6 : Int32).toInt := by rw [← e_862, q_u_at]
                        have t_870 : (I_861 o 9).toInt = (I_676 o 9).toInt := by rw [← e_862, q_u_k (by decide)]
                        exact (hp _ _ hR_863 hf_864 (by first | omega | (intro h; omega) | exact Or.inl rfl | exact Or.inr rfl) (by first | omega | (intro h; omega) | exact Or.inl rfl | exact Or.inr rfl) (by first | omega | (intro h; omega) | exact Or.inl rfl | exact Or.inr rfl) (by intro _; omega) (by first | omega | (intro h; omega) | exact Or.inl rfl | exact Or.inr rfl) (by first | omega | (intro h; omega) | exact Or.inl rfl | exact Or.inr rfl) (by intro h; omega) (by unfold MTk; refine ⟨by omega, fun h => by omega⟩))
                    · have d_871 := iNe c_842
                      have dc := u_839 (by omega)
                      refine fun I_872 e_873 => ?_
                      have hR_874 : RI R I_872 := hR_678.up0 (k := 9) ra (by decide) (Or.inr hz19) e_873 (i_lo _) (i_hi _)
                      have hf_875 : Fm (fun c => c = o) I0 I_872 := hf_679.set (by first | rfl | omega | (dsimp only; omega)) e_873
                      have t_876 : (I_872 o 3).toInt = (I_676 o 3).toInt := by rw [← e_873, q_u_k (by decide)]
                      have t_877 : (I_872 o 4).toInt = (I_676 o 4).toInt := by rw [← e_873, q_u_k (by decide)]
                      have t_878 : (I_872 o 6).toInt = (I_676 o 6).toInt := by rw [← e_873, q_u_k (by decide)]
                      have t_879 : (I_872 o 7).toInt = (I_676 o 7).toInt := by rw [← e_873, q_u_k (by decide)]
                      have t_880 : (I_872 o 8).toInt = (I_676 o 8).toInt := by rw [← e_873, q_u_k (by decide)]
                      have t_881 : (I_872 o 9).toInt = (0 : Int32).toInt := by rw [← e_873, q_u_at]
                      have g_882 : (0 : Int) ≤ (I_872 o 6).toInt ∧ (I_872 o 6).toInt ≤ 1600 := hR_874.at0 ra 6 (by decide)
                      refine fun I_883 e_884 => ?_
                      have hR_885 : RI R I_883 := hR_874.up0 (k := 7) ra (by decide) (Or.inr hz17) e_884 (show (0 : Int) ≤ (I_872 o 6).toInt by omega) (show (I_872 o 6).toInt ≤ (1601 : Int) by omega)
                      have hf_886 : Fm (fun c => c = o) I0 I_883 := hf_875.set (by first | rfl | omega | (dsimp only; omega)) e_884
                      have t_887 : (I_883 o 3).toInt = (I_872 o 3).toInt := by rw [← e_884, q_u_k (by decide)]
                      have t_888 : (I_883 o 4).toInt = (I_872 o 4).toInt := by rw [← e_884, q_u_k (by decide)]
                      have t_889 : (I_883 o 6).toInt = (I_872 o 6).toInt := by rw [← e_884, q_u_k (by decide)]
                      have t_890 : (I_883 o 7).toInt = (I_872 o 6).toInt := by rw [← e_884, q_u_at]
                      have t_891 : (I_883 o 8).toInt = (I_872 o 8).toInt := by rw [← e_884, q_u_k (by decide)]
                      have t_892 : (I_883 o 9).toInt = (I_872 o 9).toInt := by rw [← e_884, q_u_k (by decide)]
                      exact yModel_next_363 (I0 := I0) (L0 := L0) hok hw ra hz16 hz17 hz18 hz19 hZ hR0 hq0 hp  _ hR_885 hf_886 (by first | omega | (intro h; omega) | exact Or.inl rfl | exact Or.inr rfl) (by first | omega | (intro h; omega) | exact Or.inl rfl | exact Or.inr rfl) (by first | exact sgLo sc (by omega) (by omega) | exact sgLo (a := I o 6) rfl (by omega) (by omega)) (by first | exact sgHi sc (by omega) (by omega) | exact sgHi (a := I o 6) rfl (by omega) (by omega)) (by first | omega | (intro h; omega) | exact Or.inl rfl | exact Or.inr rfl) (Nat.lt_succ_self _)
                  · have d_893 := iNe c_835
                    exact yModel_next_223 (I0 := I0) (L0 := L0) hok hw ra hz16 hz17 hz18 hz19 hZ hR0 hq0 hp  _ hR_678 hf_679 (by first | omega | (intro h; omega) | exact Or.inl rfl | exact Or.inr rfl) (by first | omega | (intro h; omega) | exact Or.inl rfl | exact Or.inr rfl) (by first | omega | (intro h; omega) | exact Or.inl rfl | exact Or.inr rfl) (Nat.lt_succ_self _)
                · have d_894 := iNle c_829
                  have pr := u_828
                  rw [hf_679 (o + 2) (by first | omega | (dsimp only; omega)), show I_676 o 3 = I0 o 3 from Int32.toInt_inj.mp (by omega), show I_676 o 6 = a1 from Int32.toInt_inj.mp (by omega)] at pr
                  have dk := pr.dig (by omega) (by omega)
                  have kl := sg_lt dk.1
                  have o1 : (1 : Int32).toInt = 1 := rfl
                  have ka : (a1 + 1).toInt = a1.toInt + (1 : Int32).toInt := tAdd (by omega) (by omega)
                  have g_895 : (0 : Int) ≤ (I_676 o 6).toInt ∧ (I_676 o 6).toInt ≤ 1600 := hR_678.at0 ra 6 (by decide)
                  have a_896 : ((I_676 o 6) + 1).toInt = (I_676 o 6).toInt + (1 : Int32).toInt := tAdd (by omega) (by omega)
                  refine y_Model_pointAt hok hw ra (by first | omega | (intro h; omega) | exact Or.inl rfl | exact Or.inr rfl) hR_678 (fun r_897 u_898 u_899 => ⟨r_897, I_676, L, rfl, rfl, ?_⟩)
                  have pr2 := u_899
                  rw [hf_679 (o + 2) (by first | omega | (dsimp only; omega)), show I_676 o 3 = I0 o 3 from Int32.toInt_inj.mp (by omega), show I_676 o 6 = a1 from Int32.toInt_inj.mp (by omega)] at pr2
                  have g_900 : (0 : Int) ≤ (I_676 o 6).toInt ∧ (I_676 o 6).toInt ≤ 1600 := hR_678.at0 ra 6 (by decide)
                  have a_901 : ((I_676 o 6) + 1).toInt = (I_676 o 6).toInt + (1 : Int32).toInt := tAdd (by omega) (by omega)
                  refine y_Model_sign hok hw ra (by first | omega | (intro h; omega) | exact Or.inl rfl | exact Or.inr rfl) hR_678 (fun r_902 u_903 u_904 => ⟨r_902, I_676, L, rfl, rfl, ?_⟩)
                  have s1 := u_904
                  rw [hf_679 (o + 2) (by first | omega | (dsimp only; omega)), show I_676 o 3 = I0 o 3 from Int32.toInt_inj.mp (by omega), show I_676 o 6 = a1 from Int32.toInt_inj.mp (by omega)] at s1
                  have s1 := iEq s1
                  have e48 : (48 : Int32).toInt = 48 := rfl
                  have sb : (r_902 - 48).toInt = (r_902).toInt - (48 : Int32).toInt := tSub (by omega) (by omega)
                  refine fun I_905 e_906 => ?_
                  have hR_907 : RI R I_905 := hR_678.up0 (k := 9) ra (by decide) (Or.inr hz19) e_906 (i_lo _) (i_hi _)
                  have hf_908 : Fm (fun c => c = o) I0 I_905 := hf_679.set (by first | rfl | omega | (dsimp only; omega)) e_906
                  have t_909 : (I_905 o 3).toInt = (I_676 o 3).toInt := by rw [← e_906, q_u_k (by decide)]
                  have t_910 : (I_905 o 4).toInt = (I_676 o 4).toInt := by rw [← e_906, q_u_k (by decide)]
                  have t_911 : (I_905 o 6).toInt = (I_676 o 6).toInt := by rw [← e_906, q_u_k (by decide)]
                  have t_912 : (I_905 o 7).toInt = (I_676 o 7).toInt := by rw [← e_906, q_u_k (by decide)]
                  have t_913 : (I_905 o 8).toInt = (I_676 o 8).toInt := by rw [← e_906, q_u_k (by decide)]
                  have t_914 : (I_905 o 9).toInt = (r_902 - 48).toInt := by rw [← e_906, q_u_at]
                  have l_915 : (2 : Int32).toInt = 2 := rfl
                  refine ⟨fun c_916 => ?_, fun c_916 => ?_⟩
                  · have d_917 := iNe c_916
                    unfold fModel_next_196
                    have g_918 : (0 : Int) ≤ (I_905 o 6).toInt ∧ (I_905 o 6).toInt ≤ 1600 := hR_907.at0 ra 6 (by decide)
                    have a_919 : ((I_905 o 6) + 1).toInt = (I_905 o 6).toInt + (1 : Int32).toInt := tAdd (by omega) (by omega)
                    have a_920 : (((I_905 o 6) + 1) + r_897).toInt = ((I_905 o 6) + 1).toInt + r_897.toInt := tAdd (by omega) (by omega)
                    refine fun I_921 e_922 => ?_
                    have hR_923 : RI R I_921 := hR_907.up0 (k := 7) ra (by decide) (Or.inr hz17) e_922 (show (0 : Int) ≤ (((I_905 o 6) + 1) + r_897).toInt by omega) (show (((I_905 o 6) + 1) + r_897).toInt ≤ (1601 : Int) by omega)
                    have hf_924 : Fm (fun c => c = o) I0 I_921 := hf_908.set (by first | rfl | omega | (dsimp only; omega)) e_922
                    have t_925 : (I_921 o 3).toInt = (I_905 o 3).toInt := by rw [← e_922, q_u_k (by decide)]
                    have t_926 : (I_921 o 4).toInt = (I_905 o 4).toInt := by rw [← e_922, q_u_k (by decide)]
                    have t_927 : (I_921 o 6).toInt = (I_905 o 6).toInt := by rw [← e_922, q_u_k (by decide)]
                    have t_928 : (I_921 o 7).toInt = (((I_905 o 6) + 1) + r_897).toInt := by rw [← e_922, q_u_at]
                    have t_929 : (I_921 o 8).toInt = (I_905 o 8).toInt := by rw [← e_922, q_u_k (by decide)]
                    have t_930 : (I_921 o 9).toInt = (I_905 o 9).toInt := by rw [← e_922, q_u_k (by decide)]
                    have l_931 : (5 : Int32).toInt = 5 := rfl
                    refine fun I_932 e_933 => ?_
                    have hR_934 : RI R I_932 := hR_923.up0 (k := 8) ra (by decide) (Or.inr hz18) e_933 (show (0 : Int) ≤ (5 : Int32).toInt by omega) (show (5 : Int32).toInt ≤ (6 : Int) by omega)
                    have hf_935 : Fm (fun c => c = o) I0 I_932 := hf_924.set (by first | rfl | omega | (dsimp only; omega)) e_933
                    have t_936 : (I_932 o 3).toInt = (I_921 o 3).toInt := by rw [← e_933, q_u_k (by decide)]
                    have t_937 : (I_932 o 4).toInt = (I_921 o 4).toInt := by rw [← e_933, q_u_k (by decide)]
                    have t_938 : (I_932 o 6).toInt = (I_921 o 6).toInt := by rw [← e_933, q_u_k (by decide)]
                    have t_939 : (I_932 o 7).toInt = (I_921 o 7).toInt := by rw [← e_933, q_u_k (by decide)]
                    have t_940 : (I_932 o 8).toInt = (5 : Int32).toInt := by rw [← e_933, q_u_at]
                    have t_941 : (I_932 o 9).toInt = (I_921 o 9).toInt := by rw [← e_933, q_u_k (by decide)]
                    exact (hp _ _ hR_934 hf_935 (by first | omega | (intro h; omega) | exact Or.inl rfl | exact Or.inr rfl) (by first | omega | (intro h; omega) | exact Or.inl rfl | exact Or.inr rfl) (by first | omega | (intro h; omega) | exact Or.inl rfl | exact Or.inr rfl) (by intro _; omega) (by first | omega | (intro h; omega) | exact Or.inl rfl | exact Or.inr rfl) (by first | omega | (intro h; omega) | exact Or.inl rfl | exact Or.inr rfl) (by intro h; omega) (by unfold MTk; refine ⟨by omega, fun h => by omega⟩))
                  · have d_942 := iEq c_916
                    have tw := pr2.two (by omega)
                    have kl2 := sg_lt tw.2.2.1
                    have ka2 : (a1 + 1 + 1).toInt = (a1 + 1).toInt + (1 : Int32).toInt := tAdd (by omega) (by omega)
                    have g_943 : (0 : Int) ≤ (I_905 o 6).toInt ∧ (I_905 o 6).toInt ≤ 1600 := hR_907.at0 ra 6 (by decide)
                    have a_944 : ((I_905 o 6) + 2).toInt = (I_905 o 6).toInt + (2 : Int32).toInt := tAdd (by omega) (by omega)
                    refine y_Model_sign hok hw ra (by first | omega | (intro h; omega) | exact Or.inl rfl | exact Or.inr rfl) hR_907 (fun r_945 u_946 u_947 => ⟨r_945, I_905, L, rfl, rfl, ?_⟩)
                    have s2 := u_947
                    rw [hf_908 (o + 2) (by first | omega | (dsimp only; omega)), show I_905 o 3 = I0 o 3 from Int32.toInt_inj.mp (by omega), show I_905 o 6 = a1 from Int32.toInt_inj.mp (by omega), show a1 + 2 = a1 + 1 + 1 by rw [Int32.add_assoc]; rfl] at s2
                    have s2 := iEq s2
                    have nn := mul10 (v := I_905 o 9) (c := r_945) (by omega) (by omega) (by omega) (by omega)
                    refine fun I_948 e_949 => ?_
                    have hR_950 : RI R I_948 := hR_907.up0 (k := 9) ra (by decide) (Or.inr hz19) e_949 (i_lo _) (i_hi _)
                    have hf_951 : Fm (fun c => c = o) I0 I_948 := hf_908.set (by first | rfl | omega | (dsimp only; omega)) e_949
                    have t_952 : (I_948 o 3).toInt = (I_905 o 3).toInt := by rw [← e_949, q_u_k (by decide)]
                    have t_953 : (I_948 o 4).toInt = (I_905 o 4).toInt := by rw [← e_949, q_u_k (by decide)]
                    have t_954 : (I_948 o 6).toInt = (I_905 o 6).toInt := by rw [← e_949, q_u_k (by decide)]
                    have t_955 : (I_948 o 7).toInt = (I_905 o 7).toInt := by rw [← e_949, q_u_k (by decide)]
                    have t_956 : (I_948 o 8).toInt = (I_905 o 8).toInt := by rw [← e_949, q_u_k (by decide)]
                    have t_957 : (I_948 o 9).toInt = (((10 * (I_905 o 9)) + r_945) - 48).toInt := by rw [← e_949, q_u_at]
                    unfold fModel_next_196
                    have g_958 : (0 : Int) ≤ (I_948 o 6).toInt ∧ (I_948 o 6).toInt ≤ 1600 := hR_950.at0 ra 6 (by decide)
                    have a_959 : ((I_948 o 6) + 1).toInt = (I_948 o 6).toInt + (1 : Int32).toInt := tAdd (by omega) (by omega)
                    have a_960 : (((I_948 o 6) + 1) + r_897).toInt = ((I_948 o 6) + 1).toInt + r_897.toInt := tAdd (by omega) (by omega)
                    refine fun I_961 e_962 => ?_
                    have hR_963 : RI R I_961 := hR_950.up0 (k := 7) ra (by decide) (Or.inr hz17) e_962 (show (0 : Int) ≤ (((I_948 o 6) + 1) + r_897).toInt by omega) (show (((I_948 o 6) + 1) + r_897).toInt ≤ (1601 : Int) by omega)
                    have hf_964 : Fm (fun c => c = o) I0 I_961 := hf_951.set (by first | rfl | omega | (dsimp only; omega)) e_962
                    have t_965 : (I_961 o 3).toInt = (I_948 o 3).toInt := by rw [← e_962, q_u_k (by decide)]
                    have t_966 : (I_961 o 4).toInt = (I_948 o 4).toInt := by rw [← e_962, q_u_k (by decide)]
                    have t_967 : (I_961 o 6).toInt = (I_948 o 6).toInt := by rw [← e_962, q_u_k (by decide)]
                    have t_968 : (I_961 o 7).toInt = (((I_948 o 6) + 1) + r_897).toInt := by rw [← e_962, q_u_at]
                    have t_969 : (I_961 o 8).toInt = (I_948 o 8).toInt := by rw [← e_962, q_u_k (by decide)]
                    have t_970 : (I_961 o 9).toInt = (I_948 o 9).toInt := by rw [← e_962, q_u_k (by decide)]
                    have l_971 : (5 : Int32).toInt = 5 := rfl
                    refine fun I_972 e_973 => ?_
                    have hR_974 : RI R I_972 := hR_963.up0 (k := 8) ra (by decide) (Or.inr hz18) e_973 (show (0 : Int) ≤ (5 : Int32).toInt by omega) (show (5 : Int32).toInt ≤ (6 : Int) by omega)
                    have hf_975 : Fm (fun c => c = o) I0 I_972 := hf_964.set (by first | rfl | omega | (dsimp only; omega)) e_973
                    have t_976 : (I_972 o 3).toInt = (I_961 o 3).toInt := by rw [← e_973, q_u_k (by decide)]
                    have t_977 : (I_972 o 4).toInt = (I_961 o 4).toInt := by rw [← e_973, q_u_k (by decide)]
                    have t_978 : (I_972 o 6).toInt = (I_961 o 6).toInt := by rw [← e_973, q_u_k (by decide)]
                    have t_979 : (I_972 o 7).toInt = (I_961 o 7).toInt := by rw [← e_973, q_u_k (by decide)]
                    have t_980 : (I_972 o 8).toInt = (5 : Int32).toInt := by rw [← e_973, q_u_at]
                    have t_981 : (I_972 o 9).toInt = (I_961 o 9).toInt := by rw [← e_973, q_u_k (by decide)]
                    exact (hp _ _ hR_974 hf_975 (by first | omega | (intro h; omega) | exact Or.inl rfl | exact Or.inr rfl) (by first | omega | (intro h; omega) | exact Or.inl rfl | exact Or.inr rfl) (by first | omega | (intro h; omega) | exact Or.inl rfl | exact Or.inr rfl) (by intro _; omega) (by first | omega | (intro h; omega) | exact Or.inl rfl | exact Or.inr rfl) (by first | omega | (intro h; omega) | exact Or.inl rfl | exact Or.inr rfl) (by intro h; omega) (by unfold MTk; refine ⟨by omega, fun h => by omega⟩))
          · have d_982 := iNlt c_688
            have l_983 : (0 : Int32).toInt = 0 := rfl
            refine fun I_984 e_985 => ?_
            have hR_986 : RI R I_984 := hR_678.up0 (k := 8) ra (by decide) (Or.inr hz18) e_985 (show (0 : Int) ≤ (0 : Int32).toInt by omega) (show (0 : Int32).toInt ≤ (6 : Int) by omega)
            have hf_987 : Fm (fun c => c = o) I0 I_984 := hf_679.set (by first | rfl | omega | (dsimp only; omega)) e_985
            have t_988 : (I_984 o 3).toInt = (I_676 o 3).toInt := by rw [← e_985, q_u_k (by decide)]
            have t_989 : (I_984 o 4).toInt = (I_676 o 4).toInt := by rw [← e_985, q_u_k (by decide)]
            have t_990 : (I_984 o 6).toInt = (I_676 o 6).toInt := by rw [← e_985, q_u_k (by decide)]
            have t_991 : (I_984 o 7).toInt = (I_676 o 7).toInt := by rw [← e_985, q_u_k (by decide)]
            have t_992 : (I_984 o 8).toInt = (0 : Int32).toInt := by rw [← e_985, q_u_at]
            have t_993 : (I_984 o 9).toInt = (I_676 o 9).toInt := by rw [← e_985, q_u_k (by decide)]
            have g_994 : (0 : Int) ≤ (I_984 o 3).toInt ∧ (I_984 o 3).toInt ≤ 1600 := hR_986.at0 ra 3 (by decide)
            refine fun I_995 e_996 => ?_
            have hR_997 : RI R I_995 := hR_986.up0 (k := 6) ra (by decide) (Or.inr hz16) e_996 (show (0 : Int) ≤ (I_984 o 3).toInt by omega) (show (I_984 o 3).toInt ≤ (1600 : Int) by omega)
            have hf_998 : Fm (fun c => c = o) I0 I_995 := hf_987.set (by first | rfl | omega | (dsimp only; omega)) e_996
            have t_999 : (I_995 o 3).toInt = (I_984 o 3).toInt := by rw [← e_996, q_u_k (by decide)]
            have t_1000 : (I_995 o 4).toInt = (I_984 o 4).toInt := by rw [← e_996, q_u_k (by decide)]
            have t_1001 : (I_995 o 6).toInt = (I_984 o 3).toInt := by rw [← e_996, q_u_at]
            have t_1002 : (I_995 o 7).toInt = (I_984 o 7).toInt := by rw [← e_996, q_u_k (by decide)]
            have t_1003 : (I_995 o 8).toInt = (I_984 o 8).toInt := by rw [← e_996, q_u_k (by decide)]
            have t_1004 : (I_995 o 9).toInt = (I_984 o 9).toInt := by rw [← e_996, q_u_k (by decide)]
            have g_1005 : (0 : Int) ≤ (I_995 o 3).toInt ∧ (I_995 o 3).toInt ≤ 1600 := hR_997.at0 ra 3 (by decide)
            refine fun I_1006 e_1007 => ?_
            have hR_1008 : RI R I_1006 := hR_997.up0 (k := 7) ra (by decide) (Or.inr hz17) e_1007 (show (0 : Int) ≤ (I_995 o 3).toInt by omega) (show (I_995 o 3).toInt ≤ (1601 : Int) by omega)
            have hf_1009 : Fm (fun c => c = o) I0 I_1006 := hf_998.set (by first | rfl | omega | (dsimp only; omega)) e_1007
            have t_1010 : (I_1006 o 3).toInt = (I_995 o 3).toInt := by rw [← e_1007, q_u_k (by decide)]
            have t_1011 : (I_1006 o 4).toInt = (I_995 o 4).toInt := by rw [← e_1007, q_u_k (by decide)]
            have t_1012 : (I_1006 o 6).toInt = (I_995 o 6).toInt := by rw [← e_1007, q_u_k (by decide)]
            have t_1013 : (I_1006 o 7).toInt = (I_995 o 3).toInt := by rw [← e_1007, q_u_at]
            have t_1014 : (I_1006 o 8).toInt = (I_995 o 8).toInt := by rw [← e_1007, q_u_k (by decide)]
            have t_1015 : (I_1006 o 9).toInt = (I_995 o 9).toInt := by rw [← e_1007, q_u_k (by decide)]
            exact (hp _ _ hR_1008 hf_1009 (by first | omega | (intro h; omega) | exact Or.inl rfl | exact Or.inr rfl) (by first | omega | (intro h; omega) | exact Or.inl rfl | exact Or.inr rfl) (by first | omega | (intro h; omega) | exact Or.inl rfl | exact Or.inr rfl) (by intro _; omega) (by first | omega | (intro h; omega) | exact Or.inl rfl | exact Or.inr rfl) (by first | omega | (intro h; omega) | exact Or.inl rfl | exact Or.inr rfl) (by intro h; omega) (by unfold MTk; refine ⟨by omega, fun h => by omega⟩))
        · have d_1016 := iEq c_667
          unfold fModel_next_45
          have g_1017 : (0 : Int) ≤ (I o 6).toInt ∧ (I o 6).toInt ≤ 1600 := hR.at0 ra 6 (by decide)
          have l_1018 : (1 : Int32).toInt = 1 := rfl
          have a_1019 : ((I o 6) + 1).toInt = (I o 6).toInt + (1 : Int32).toInt := tAdd (by omega) (by omega)
          refine fun I_1020 e_1021 => ?_
          have hR_1022 : RI R I_1020 := hR.up0 (k := 6) ra (by decide) (Or.inr hz16) e_1021 (show (0 : Int) ≤ ((I o 6) + 1).toInt by omega) (show ((I o 6) + 1).toInt ≤ (1600 : Int) by omega)
          have hf_1023 : Fm (fun c => c = o) I0 I_1020 := hf.set (by first | rfl | omega | (dsimp only; omega)) e_1021
          have t_1024 : (I_1020 o 3).toInt = (I o 3).toInt := by rw [← e_1021, q_u_k (by decide)]
          have t_1025 : (I_1020 o 4).toInt = (I o 4).toInt := by rw [← e_1021, q_u_k (by decide)]
          have t_1026 : (I_1020 o 6).toInt = ((I o 6) + 1).toInt := by rw [← e_1021, q_u_at]
          have t_1027 : (I_1020 o 7).toInt = (I o 7).toInt := by rw [← e_1021, q_u_k (by decide)]
          have t_1028 : (I_1020 o 8).toInt = (I o 8).toInt := by rw [← e_1021, q_u_k (by decide)]
          have t_1029 : (I_1020 o 9).toInt = (I o 9).toInt := by rw [← e_1021, q_u_k (by decide)]
          exact ih hR_1022 hf_1023 (by first | omega | (intro h; omega) | exact Or.inl rfl | exact Or.inr rfl) (by first | omega | (intro h; omega) | exact Or.inl rfl | exact Or.inr rfl) (by first | omega | (intro h; omega) | exact Or.inl rfl | exact Or.inr rfl) (by first | omega | (intro h; omega) | exact Or.inl rfl | exact Or.inr rfl) (by omega)
set_option maxHeartbeats 4000000 in
set_option maxRecDepth 20000 in
theorem yc_Model_next {D : va_G} {cA : FieldType → ClassId} {b : Nat} {E : State → Prop} {R : qRg} {o n : Nat} {sh : Nat → qC} {Rf : Nat → Nat → Option Nat} {I0 : Nat → Nat → Int32} {L0 : Nat → Nat → Int64} {post : Option Value → qS → Prop} (hok : q_ok (qGG D cA b E)) (hw : WfModel (qGG D cA b E) n sh Rf o) (ra : RAModel R o) (hz16 : R.2 16 = true) (hz17 : R.2 17 = true) (hz18 : R.2 18 = true) (hz19 : R.2 19 = true) (hZ : Fz R I0 o wModel_next) (hR0 : RI R I0) (hq0 : (I0 o 7).toInt ≤ (I0 o 3).toInt) (hR : RI R I0) (hp : ∀ (I' : Nat → Nat → Int32) (L' : Nat → Nat → Int64), RI R I' → Fm (fun c => c = o) I0 I' → ((I' o 7).toInt ≤ (I' o 3).toInt) → ((I0 o 7).toInt ≤ (I' o 7).toInt) → (7 * (I0 o 7).toInt - (I0 o 8).toInt + (I0 o 4).toInt ≤ 7 * (I' o 7).toInt - (I' o 8).toInt + (I' o 4).toInt) → (Im ((I0 o 8).toInt ≠ 0) (7 * (I0 o 7).toInt - (I0 o 8).toInt + (I0 o 4).toInt < 7 * (I' o 7).toInt - (I' o 8).toInt + (I' o 4).toInt)) → ((I0 o 7).toInt ≤ (I' o 6).toInt) → ((I' o 6).toInt ≤ (I' o 3).toInt) → (MPo I' o) → (MTk I' o) → post none (n, sh, Rf, I', L')) : Ev (qGG D cA b E) mModel_next 2 (0, 0) 0 (lv_args 0 [.ref o]) [] (n, sh, Rf, I0, L0) post := by
  have hf : Fm (fun c => c = o) I0 I0 := Fm.rf
  have g_1030 : (0 : Int) ≤ (I0 o 3).toInt ∧ (I0 o 3).toInt ≤ 1600 := hR.at0 ra 3 (by decide)
  have g_1031 : (0 : Int) ≤ (I0 o 4).toInt ∧ (I0 o 4).toInt ≤ 5 := hR.at0 ra 4 (by decide)
  have g_1032 : (0 : Int) ≤ (I0 o 6).toInt ∧ (I0 o 6).toInt ≤ 1600 := hR.at0 ra 6 (by decide)
  have g_1033 : (0 : Int) ≤ (I0 o 7).toInt ∧ (I0 o 7).toInt ≤ 1601 := hR.at0 ra 7 (by decide)
  have g_1034 : (0 : Int) ≤ (I0 o 8).toInt ∧ (I0 o 8).toInt ≤ 6 := hR.at0 ra 8 (by decide)
  refine sModel_next_0 o n sh Rf I0 L0 post  hok hw ?_
  unfold fModel_next_0
  have g_1035 : (0 : Int) ≤ (I0 o 7).toInt ∧ (I0 o 7).toInt ≤ 1601 := hR.at0 ra 7 (by decide)
  refine fun I_1036 e_1037 => ?_
  have hR_1038 : RI R I_1036 := hR.up0 (k := 6) ra (by decide) (Or.inr hz16) e_1037 (show (0 : Int) ≤ (I0 o 7).toInt by omega) (show (I0 o 7).toInt ≤ (1600 : Int) by omega)
  have hf_1039 : Fm (fun c => c = o) I0 I_1036 := hf.set (by first | rfl | omega | (dsimp only; omega)) e_1037
  have t_1040 : (I_1036 o 3).toInt = (I0 o 3).toInt := by rw [← e_1037, q_u_k (by decide)]
  have t_1041 : (I_1036 o 4).toInt = (I0 o 4).toInt := by rw [← e_1037, q_u_k (by decide)]
  have t_1042 : (I_1036 o 6).toInt = (I0 o 7).toInt := by rw [← e_1037, q_u_at]
  have t_1043 : (I_1036 o 7).toInt = (I0 o 7).toInt := by rw [← e_1037, q_u_k (by decide)]
  have t_1044 : (I_1036 o 8).toInt = (I0 o 8).toInt := by rw [← e_1037, q_u_k (by decide)]
  have t_1045 : (I_1036 o 9).toInt = (I0 o 9).toInt := by rw [← e_1037, q_u_k (by decide)]
  exact yModel_next_8 (I0 := I0) (L0 := L0) hok hw ra hz16 hz17 hz18 hz19 hZ hR0 hq0 hp  _ hR_1038 hf_1039 (by first | omega | (intro h; omega) | exact Or.inl rfl | exact Or.inr rfl) (by first | omega | (intro h; omega) | exact Or.inl rfl | exact Or.inr rfl) (by first | omega | (intro h; omega) | exact Or.inl rfl | exact Or.inr rfl) (by first | omega | (intro h; omega) | exact Or.inl rfl | exact Or.inr rfl) (Nat.lt_succ_self _)
theorem y_Model_next {D : va_G} {cA : FieldType → ClassId} {b : Nat} {E : State → Prop} {R : qRg} {o n : Nat} {sh : Nat → qC} {Rf : Nat → Nat → Option Nat} {I0 : Nat → Nat → Int32} {L0 : Nat → Nat → Int64} {post : Option Value → qS → Prop} (hok : q_ok (qGG D cA b E)) (hw : WfModel (qGG D cA b E) n sh Rf o) (ra : RAModel R o) (hz16 : R.2 16 = true) (hz17 : R.2 17 = true) (hz18 : R.2 18 = true) (hz19 : R.2 19 = true) (hq0 : (I0 o 7).toInt ≤ (I0 o 3).toInt) (hR : RI R I0) (hp : ∀ (I' : Nat → Nat → Int32) (L' : Nat → Nat → Int64), RI R I' → Fm (fun c => c = o) I0 I' → Kp wModel_next I0 I' o → ((I' o 7).toInt ≤ (I' o 3).toInt) → ((I0 o 7).toInt ≤ (I' o 7).toInt) → (7 * (I0 o 7).toInt - (I0 o 8).toInt + (I0 o 4).toInt ≤ 7 * (I' o 7).toInt - (I' o 8).toInt + (I' o 4).toInt) → (Im ((I0 o 8).toInt ≠ 0) (7 * (I0 o 7).toInt - (I0 o 8).toInt + (I0 o 4).toInt < 7 * (I' o 7).toInt - (I' o 8).toInt + (I' o 4).toInt)) → ((I0 o 7).toInt ≤ (I' o 6).toInt) → ((I' o 6).toInt ≤ (I' o 3).toInt) → (MPo I' o) → (MTk I' o) → post none (n, sh, Rf, I', L')) : Ev (qGG D cA b E) mModel_next 2 (0, 0) 0 (lv_args 0 [.ref o]) [] (n, sh, Rf, I0, L0) post :=
  yc_Model_next (R := fzR R I0 o wModel_next) hok hw (fzA ra hR _) (fzT hz16 rfl) (fzT hz17 rfl) (fzT hz18 rfl) (fzT hz19 rfl) fzZ (fzI hR) hq0 (fzI hR) (fun I' L' h1 h2 u0 u1 u2 u3 u4 u5 u6 u7 => hp I' L' (fzB hR h1) h2 (fzP h1) u0 u1 u2 u3 u4 u5 u6 u7)
