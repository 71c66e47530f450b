/-! Safety of the reference, the lines of a LAND: by program (spec.py). -/
def wModel_readPan : Nat → Bool := fun j => Nat.beq j 14 || Nat.beq j 15 || Nat.beq j 16 || Nat.beq j 17 || Nat.beq j 18 || Nat.beq j 19 || false
set_option maxHeartbeats 4000000 in
set_option maxRecDepth 20000 in
theorem yModel_readPan_101 {D : va_G} {cA : FieldType → ClassId} {b : Nat} {E : State → Prop} {R : qRg} {o n : Nat} {sh : Nat → qC} {Rf : Nat → Nat → Option Nat} {I0 : Nat → Nat → Int32} {L0 : Nat → Nat → Int64} {post : Option Value → qS → Prop} (hok : q_ok (qGG D cA b E)) (hw : WfModel (qGG D cA b E) n sh Rf o) (ra : RAModel R o) (hz14 : R.2 14 = true) (hz15 : R.2 15 = true) (hz16 : R.2 16 = true) (hz17 : R.2 17 = true) (hz18 : R.2 18 = true) (hz19 : R.2 19 = true) (hZ : Fz R I0 o wModel_readPan) (hR0 : RI R I0) (hq0 : (I0 o 7).toInt ≤ (I0 o 3).toInt) (hq1 : (I0 (o + 8) (I0 o 35 : Int32).toNatClampNeg).toInt ≤ 2) (hq2 : MPo I0 o) (hq3 : MTk I0 o) (hp : ∀ (I' : Nat → Nat → Int32) (L' : Nat → Nat → Int64), RI R I' → Fm (fun c => c = o ∨ c = o + 8 ∨ (o + 16 ≤ c ∧ c < o + 19)) I0 I' → ((I' o 7).toInt ≤ (I' o 3).toInt) → ((I0 o 7).toInt ≤ (I' o 7).toInt) → ((I0 o 4).toInt ≤ (I' o 4).toInt) → (7 * (I0 o 7).toInt - (I0 o 8).toInt + (I0 o 4).toInt ≤ 7 * (I' o 7).toInt - (I' o 8).toInt + (I' o 4).toInt) → (MPo I' o) → (MTk I' o) → post none (n, sh, Rf, I', L')) : ∀ (k : Nat) {x1 : Int32} {x2 : Int32} {I : Nat → Nat → Int32} {L : Nat → Nat → Int64}, RI R I → Fm (fun c => c = o ∨ c = o + 8 ∨ (o + 16 ≤ c ∧ c < o + 19)) I0 I → ((0 : Int) ≤ x1.toInt ∧ x1.toInt ≤ 5) → ((I o 7).toInt ≤ (I o 3).toInt) → ((I0 o 7).toInt ≤ (I o 7).toInt) → ((I0 o 4).toInt ≤ (I o 4).toInt) → (7 * (I0 o 7).toInt - (I0 o 8).toInt + (I0 o 4).toInt ≤ 7 * (I o 7).toInt - (I o 8).toInt + (I o 4).toInt) → (MPo I o) → (MTk I o) → (I (o + 8) = I0 (o + 8)) → (11300 - (7 * (I o 7).toInt - (I o 8).toInt + (I o 4).toInt)).toNat < k → Ev (qGG D cA b E) mModel_readPan 5 (0, 0) 101 [(0, .ref o), (1, .int x1), (2, .int x2)] [] (n, sh, Rf, I, L) post := by
  intro k
  induction k with
  | zero =>
    intro x1 x2 I L hR hf hi0 hi1 hi2 hi3 hi4 hi5 hi6 hi7 hm
    exact absurd hm (Nat.not_lt_zero _)
  | succ k ih =>
    intro x1 x2 I L hR hf hi0 hi1 hi2 hi3 hi4 hi5 hi6 hi7 hm
    have g_1 : (0 : Int) ≤ (I o 3).toInt ∧ (I o 3).toInt ≤ 1600 := hR.at0 ra 3 (by decide)
    have z_2 : (I o 3).toInt = (I0 o 3).toInt := by rw [hZ I 3 rfl hR]
    have g_3 : (0 : Int) ≤ (I o 4).toInt ∧ (I o 4).toInt ≤ 5 := hR.at0 ra 4 (by decide)
    have g_4 : (0 : Int) ≤ (I0 o 4).toInt ∧ (I0 o 4).toInt ≤ 5 := hR0.at0 ra 4 (by decide)
    have g_5 : (0 : Int) ≤ (I o 6).toInt ∧ (I o 6).toInt ≤ 1600 := hR.at0 ra 6 (by decide)
    have g_6 : (0 : Int) ≤ (I0 o 6).toInt ∧ (I0 o 6).toInt ≤ 1600 := hR0.at0 ra 6 (by decide)
    have g_7 : (0 : Int) ≤ (I o 7).toInt ∧ (I o 7).toInt ≤ 1601 := hR.at0 ra 7 (by decide)
    have g_8 : (0 : Int) ≤ (I0 o 7).toInt ∧ (I0 o 7).toInt ≤ 1601 := hR0.at0 ra 7 (by decide)
    have g_9 : (0 : Int) ≤ (I o 8).toInt ∧ (I o 8).toInt ≤ 6 := hR.at0 ra 8 (by decide)
    have g_10 : (0 : Int) ≤ (I0 o 8).toInt ∧ (I0 o 8).toInt ≤ 6 := hR0.at0 ra 8 (by decide)
    refine sModel_readPan_101 o n sh Rf I L post x1 x2 hok hw ?_
    unfold fModel_readPan_101
    have l_11 : (0 : Int32).toInt = 0 := rfl
    refine ⟨fun c_12 => ?_, fun c_12 => ?_⟩
    · have d_13 := iEq c_12
      unfold fModel_readPan_183
      refine y_Model_isGood hok hw ra hR (fun r_14 u_15 u_16 u_17 => ⟨r_14, I, L, rfl, rfl, ?_⟩)
      have b_18 : 0 ≤ r_14.toInt ∧ r_14.toInt ≤ 1 := u_15.rg
      refine ⟨fun c_19 => ?_, fun c_19 => ?_⟩
      · have d_20 := iEq c_19
        have i_21 := u_17 (by omega)
        exact (hp _ _ hR hf (by first | omega | (intro h; omega) | exact Or.inl rfl | exact Or.inr rfl) (by first | omega | (intro h; omega) | exact Or.inl rfl | exact Or.inr rfl) (by first | omega | (intro h; omega) | exact Or.inl rfl | exact Or.inr rfl) (by first | omega | (intro h; omega) | exact Or.inl rfl | exact Or.inr rfl) hi5 hi6)
      · have d_22 := iNe c_19
        have i_23 := u_16 (by omega)
        have g_24 : (0 : Int) ≤ (I o 35).toInt ∧ (I o 35).toInt ≤ 1 := hR.at0 ra 35 (by decide)
        have rk : (I (o + 8) (I o 35 : Int32).toNatClampNeg).toInt = (I0 (o + 8) (I0 o 35 : Int32).toNatClampNeg).toInt := by rw [hi7, hZ I 35 rfl hR]
        refine ⟨tIn (by omega) (by omega), ?_⟩
        have g_25 : (0 : Int) ≤ (I (o + 8) ((I o 35) : Int32).toNatClampNeg).toInt ∧ (I (o + 8) ((I o 35) : Int32).toNatClampNeg).toInt ≤ 3 := hR.at ra 8 _ (by decide)
        have l_26 : (1 : Int32).toInt = 1 := rfl
        have a_27 : ((I (o + 8) ((I o 35) : Int32).toNatClampNeg) + 1).toInt = (I (o + 8) ((I o 35) : Int32).toNatClampNeg).toInt + (1 : Int32).toInt := tAdd (by omega) (by omega)
        refine ⟨tIn (by omega) (by omega), fun I_28 e_29 => ?_⟩
        have hR_30 : RI R I_28 := hR.up ra 8 (by decide) (Or.inl rfl) e_29 (show (0 : Int) ≤ ((I (o + 8) ((I o 35) : Int32).toNatClampNeg) + 1).toInt by omega) (show ((I (o + 8) ((I o 35) : Int32).toNatClampNeg) + 1).toInt ≤ (3 : Int) by omega)
        have hf_31 : Fm (fun c => c = o ∨ c = o + 8 ∨ (o + 16 ≤ c ∧ c < o + 19)) I0 I_28 := hf.set (by first | rfl | omega | (dsimp only; omega)) e_29
        have t_32 : (I_28 o 3).toInt = (I o 3).toInt := by rw [← e_29, q_u_ne (by omega)]
        have t_33 : (I_28 o 4).toInt = (I o 4).toInt := by rw [← e_29, q_u_ne (by omega)]
        have t_34 : (I_28 o 6).toInt = (I o 6).toInt := by rw [← e_29, q_u_ne (by omega)]
        have t_35 : (I_28 o 7).toInt = (I o 7).toInt := by rw [← e_29, q_u_ne (by omega)]
        have t_36 : (I_28 o 8).toInt = (I o 8).toInt := by rw [← e_29, q_u_ne (by omega)]
        have t_37 : (I_28 o 9).toInt = (I o 9).toInt := by rw [← e_29, q_u_ne (by omega)]
        have t_38 : (I_28 o 35).toInt = (I o 35).toInt := by rw [← e_29, q_u_ne (by omega)]
        have k_39 : MPo I_28 o := hi5.fr (by rw [← e_29, q_u_ne (by omega)]) (by rw [← e_29, q_u_ne (by omega)])
        have k_40 : MTk I_28 o := hi6.fr (by rw [← e_29, q_u_ne (by omega)]) (by rw [← e_29, q_u_ne (by omega)]) (by rw [← e_29, q_u_ne (by omega)])
        exact (hp _ _ hR_30 hf_31 (by first | omega | (intro h; omega) | exact Or.inl rfl | exact Or.inr rfl) (by first | omega | (intro h; omega) | exact Or.inl rfl | exact Or.inr rfl) (by first | omega | (intro h; omega) | exact Or.inl rfl | exact Or.inr rfl) (by first | omega | (intro h; omega) | exact Or.inl rfl | exact Or.inr rfl) k_39 k_40)
    · have d_41 := iNe c_12
      refine y_Model_isGood hok hw ra hR (fun r_42 u_43 u_44 u_45 => ⟨r_42, I, L, rfl, rfl, ?_⟩)
      have b_46 : 0 ≤ r_42.toInt ∧ r_42.toInt ≤ 1 := u_43.rg
      refine ⟨fun c_47 => ?_, fun c_47 => ?_⟩
      · have d_48 := iEq c_47
        have i_49 := u_45 (by omega)
        unfold fModel_readPan_183
        refine y_Model_isGood hok hw ra hR (fun r_50 u_51 u_52 u_53 => ⟨r_50, I, L, rfl, rfl, ?_⟩)
        have b_54 : 0 ≤ r_50.toInt ∧ r_50.toInt ≤ 1 := u_51.rg
        refine ⟨fun c_55 => ?_, fun c_55 => ?_⟩
        · have d_56 := iEq c_55
          have i_57 := u_53 (by omega)
          exact (hp _ _ hR hf (by first | omega | (intro h; omega) | exact Or.inl rfl | exact Or.inr rfl) (by first | omega | (intro h; omega) | exact Or.inl rfl | exact Or.inr rfl) (by first | omega | (intro h; omega) | exact Or.inl rfl | exact Or.inr rfl) (by first | omega | (intro h; omega) | exact Or.inl rfl | exact Or.inr rfl) hi5 hi6)
        · have d_58 := iNe c_55
          have i_59 := u_52 (by omega)
          have g_60 : (0 : Int) ≤ (I o 35).toInt ∧ (I o 35).toInt ≤ 1 := hR.at0 ra 35 (by decide)
          have rk : (I (o + 8) (I o 35 : Int32).toNatClampNeg).toInt = (I0 (o + 8) (I0 o 35 : Int32).toNatClampNeg).toInt := by rw [hi7, hZ I 35 rfl hR]
          refine ⟨tIn (by omega) (by omega), ?_⟩
          have g_61 : (0 : Int) ≤ (I (o + 8) ((I o 35) : Int32).toNatClampNeg).toInt ∧ (I (o + 8) ((I o 35) : Int32).toNatClampNeg).toInt ≤ 3 := hR.at ra 8 _ (by decide)
          have l_62 : (1 : Int32).toInt = 1 := rfl
          have a_63 : ((I (o + 8) ((I o 35) : Int32).toNatClampNeg) + 1).toInt = (I (o + 8) ((I o 35) : Int32).toNatClampNeg).toInt + (1 : Int32).toInt := tAdd (by omega) (by omega)
          refine ⟨tIn (by omega) (by omega), fun I_64 e_65 => ?_⟩
          have hR_66 : RI R I_64 := hR.up ra 8 (by decide) (Or.inl rfl) e_65 (show (0 : Int) ≤ ((I (o + 8) ((I o 35) : Int32).toNatClampNeg) + 1).toInt by omega) (show ((I (o + 8) ((I o 35) : Int32).toNatClampNeg) + 1).toInt ≤ (3 : Int) by omega)
          have hf_67 : Fm (fun c => c = o ∨ c = o + 8 ∨ (o + 16 ≤ c ∧ c < o + 19)) I0 I_64 := hf.set (by first | rfl | omega | (dsimp only; omega)) e_65
          have t_68 : (I_64 o 3).toInt = (I o 3).toInt := by rw [← e_65, q_u_ne (by omega)]
          have t_69 : (I_64 o 4).toInt = (I o 4).toInt := by rw [← e_65, q_u_ne (by omega)]
          have t_70 : (I_64 o 6).toInt = (I o 6).toInt := by rw [← e_65, q_u_ne (by omega)]
          have t_71 : (I_64 o 7).toInt = (I o 7).toInt := by rw [← e_65, q_u_ne (by omega)]
          have t_72 : (I_64 o 8).toInt = (I o 8).toInt := by rw [← e_65, q_u_ne (by omega)]
          have t_73 : (I_64 o 9).toInt = (I o 9).toInt := by rw [← e_65, q_u_ne (by omega)]
          have t_74 : (I_64 o 35).toInt = (I o 35).toInt := by rw [← e_65, q_u_ne (by omega)]
          have k_75 : MPo I_64 o := hi5.fr (by rw [← e_65, q_u_ne (by omega)]) (by rw [← e_65, q_u_ne (by omega)])
          have k_76 : MTk I_64 o := hi6.fr (by rw [← e_65, q_u_ne (by omega)]) (by rw [← e_65, q_u_ne (by omega)]) (by rw [← e_65, q_u_ne (by omega)])
          exact (hp _ _ hR_66 hf_67 (by first | omega | (intro h; omega) | exact Or.inl rfl | exact Or.inr rfl) (by first | omega | (intro h; omega) | exact Or.inl rfl | exact Or.inr rfl) (by first | omega | (intro h; omega) | exact Or.inl rfl | exact Or.inr rfl) (by first | omega | (intro h; omega) | exact Or.inl rfl | exact Or.inr rfl) k_75 k_76)
      · have d_77 := iNe c_47
        have i_78 := u_44 (by omega)
        have gd := u_44 (by omega)
        have g_79 : (0 : Int) ≤ (I o 6).toInt ∧ (I o 6).toInt ≤ 1600 := hR.at0 ra 6 (by decide)
        have l_80 : (4 : Int32).toInt = 4 := rfl
        refine y_Model_numeral hok hw ra hz14 hz15 hz16 hz17 hz18 hz19 (by first | omega | (intro h; omega) | exact Or.inl rfl | exact Or.inr rfl) hi5 hi6 hR (fun r_81 I_89 L_90 hR_91 fr_92 kp_93 u_82 u_83 u_84 u_85 u_86 u_87 u_88 => ⟨r_81, I_89, L_90, rfl, rfl, ?_⟩)
        have hf_94 : Fm (fun c => c = o ∨ c = o + 8 ∨ (o + 16 ≤ c ∧ c < o + 19)) I0 I_89 := hf.call fr_92 (fun c hc => by first | exact hc | (dsimp only at hc ⊢; omega) | omega)
        have t_95 : (I_89 o 3).toInt = (I o 3).toInt := by rw [kp_93 3 rfl]
        have g_96 : (0 : Int) ≤ (I_89 o 4).toInt ∧ (I_89 o 4).toInt ≤ 5 := hR_91.at0 ra 4 (by decide)
        have g_97 : (0 : Int) ≤ (I_89 o 6).toInt ∧ (I_89 o 6).toInt ≤ 1600 := hR_91.at0 ra 6 (by decide)
        have g_98 : (0 : Int) ≤ (I_89 o 7).toInt ∧ (I_89 o 7).toInt ≤ 1601 := hR_91.at0 ra 7 (by decide)
        have g_99 : (0 : Int) ≤ (I_89 o 8).toInt ∧ (I_89 o 8).toInt ≤ 6 := hR_91.at0 ra 8 (by decide)
        have w_100 : I_89 (o + 8) = I0 (o + 8) := (fr_92 (o + 8) (by first | omega | (dsimp only; omega))).trans hi7
        have mu := u_86 (by omega)
        refine y_Model_isGood hok hw ra hR_91 (fun r_101 u_102 u_103 u_104 => ⟨r_101, I_89, L_90, rfl, rfl, ?_⟩)
        have b_105 : 0 ≤ r_101.toInt ∧ r_101.toInt ≤ 1 := u_102.rg
        refine ⟨fun c_106 => ?_, fun c_106 => ?_⟩
        · have d_107 := iEq c_106
          have i_108 := u_104 (by omega)
          unfold fModel_readPan_153
          refine ⟨tIn (by omega) (by omega), ?_⟩
          refine ⟨tIn (by omega) (by omega), fun I_109 e_110 => ?_⟩
          have hR_111 : RI R I_109 := hR_91.up ra 18 (by decide) (Or.inl rfl) e_110 (i_lo _) (i_hi _)
          have hf_112 : Fm (fun c => c = o ∨ c = o + 8 ∨ (o + 16 ≤ c ∧ c < o + 19)) I0 I_109 := hf_94.set (by first | rfl | omega | (dsimp only; omega)) e_110
          have t_113 : (I_109 o 3).toInt = (I_89 o 3).toInt := by rw [← e_110, q_u_ne (by omega)]
          have t_114 : (I_109 o 4).toInt = (I_89 o 4).toInt := by rw [← e_110, q_u_ne (by omega)]
          have t_115 : (I_109 o 6).toInt = (I_89 o 6).toInt := by rw [← e_110, q_u_ne (by omega)]
          have t_116 : (I_109 o 7).toInt = (I_89 o 7).toInt := by rw [← e_110, q_u_ne (by omega)]
          have t_117 : (I_109 o 8).toInt = (I_89 o 8).toInt := by rw [← e_110, q_u_ne (by omega)]
          have t_118 : (I_109 o 9).toInt = (I_89 o 9).toInt := by rw [← e_110, q_u_ne (by omega)]
          have k_119 : MPo I_109 o := u_87.fr (by rw [← e_110, q_u_ne (by omega)]) (by rw [← e_110, q_u_ne (by omega)])
          have k_120 : MTk I_109 o := u_88.fr (by rw [← e_110, q_u_ne (by omega)]) (by rw [← e_110, q_u_ne (by omega)]) (by rw [← e_110, q_u_ne (by omega)])
          have w_121 : I_109 (o + 8) = I0 (o + 8) := by rw [← e_110, q_u_ne (by omega)]; exact w_100
          have g_122 : (0 : Int) ≤ (I_109 o 8).toInt ∧ (I_109 o 8).toInt ≤ 6 := hR_111.at0 ra 8 (by decide)
          refine ⟨fun c_123 => ?_, fun c_123 => ?_⟩
          · have d_124 := iNe c_123
            unfold fModel_readPan_179
            exact ih hR_111 hf_112 (by first | omega | (intro h; omega) | exact Or.inl rfl | exact Or.inr rfl) (by first | omega | (intro h; omega) | exact Or.inl rfl | exact Or.inr rfl) (by first | omega | (intro h; omega) | exact Or.inl rfl | exact Or.inr rfl) (by first | omega | (intro h; omega) | exact Or.inl rfl | exact Or.inr rfl) (by first | omega | (intro h; omega) | exact Or.inl rfl | exact Or.inr rfl) k_119 k_120 w_121 (by omega)
          · have d_125 := iEq c_123
            unfold fModel_readPan_179
            have l_126 : (1 : Int32).toInt = 1 := rfl
            exact ih hR_111 hf_112 (by first | omega | (intro h; omega) | exact Or.inl rfl | exact Or.inr rfl) (by first | omega | (intro h; omega) | exact Or.inl rfl | exact Or.inr rfl) (by first | omega | (intro h; omega) | exact Or.inl rfl | exact Or.inr rfl) (by first | omega | (intro h; omega) | exact Or.inl rfl | exact Or.inr rfl) (by first | omega | (intro h; omega) | exact Or.inl rfl | exact Or.inr rfl) k_119 k_120 w_121 (by omega)
        · have d_127 := iNe c_106
          have i_128 := u_103 (by omega)
          refine ⟨tIn (by omega) (by omega), ?_⟩
          have l_129 : (1 : Int32).toInt = 1 := rfl
          refine ⟨fun c_130 => ?_, fun c_130 => ?_⟩
          · have d_131 := iNe c_130
            unfold fModel_readPan_153
            refine ⟨tIn (by omega) (by omega), ?_⟩
            refine ⟨tIn (by omega) (by omega), fun I_132 e_133 => ?_⟩
            have hR_134 : RI R I_132 := hR_91.up ra 18 (by decide) (Or.inl rfl) e_133 (i_lo _) (i_hi _)
            have hf_135 : Fm (fun c => c = o ∨ c = o + 8 ∨ (o + 16 ≤ c ∧ c < o + 19)) I0 I_132 := hf_94.set (by first | rfl | omega | (dsimp only; omega)) e_133
            have t_136 : (I_132 o 3).toInt = (I_89 o 3).toInt := by rw [← e_133, q_u_ne (by omega)]
            have t_137 : (I_132 o 4).toInt = (I_89 o 4).toInt := by rw [← e_133, q_u_ne (by omega)]
            have t_138 : (I_132 o 6).toInt = (I_89 o 6).toInt := by rw [← e_133, q_u_ne (by omega)]
            have t_139 : (I_132 o 7).toInt = (I_89 o 7).toInt := by rw [← e_133, q_u_ne (by omega)]
            have t_140 : (I_132 o 8).toInt = (I_89 o 8).toInt := by rw [← e_133, q_u_ne (by omega)]
            have t_141 : (I_132 o 9).toInt = (I_89 o 9).toInt := by rw [← e_133, q_u_ne (by omega)]
            have k_142 : MPo I_132 o := u_87.fr (by rw [← e_133, q_u_ne (by omega)]) (by rw [← e_133, q_u_ne (by omega)])
            have k_143 : MTk I_132 o := u_88.fr (by rw [← e_133, q_u_ne (by omega)]) (by rw [← e_133, q_u_ne (by omega)]) (by rw [← e_133, q_u_ne (by omega)])
            have w_144 : I_132 (o + 8) = I0 (o + 8) := by rw [← e_133, q_u_ne (by omega)]; exact w_100
            have g_145 : (0 : Int) ≤ (I_132 o 8).toInt ∧ (I_132 o 8).toInt ≤ 6 := hR_134.at0 ra 8 (by decide)
            refine ⟨fun c_146 => ?_, fun c_146 => ?_⟩
            · have d_147 := iNe c_146
              unfold fModel_readPan_179
              exact ih hR_134 hf_135 (by first | omega | (intro h; omega) | exact Or.inl rfl | exact Or.inr rfl) (by first | omega | (intro h; omega) | exact Or.inl rfl | exact Or.inr rfl) (by first | omega | (intro h; omega) | exact Or.inl rfl | exact Or.inr rfl) (by first | omega | (intro h; omega) | exact Or.inl rfl | exact Or.inr rfl) (by first | omega | (intro h; omega) | exact Or.inl rfl | exact Or.inr rfl) k_142 k_143 w_144 (by omega)
            · have d_148 := iEq c_146
              unfold fModel_readPan_179
              exact ih hR_134 hf_135 (by first | omega | (intro h; omega) | exact Or.inl rfl | exact Or.inr rfl) (by first | omega | (intro h; omega) | exact Or.inl rfl | exact Or.inr rfl) (by first | omega | (intro h; omega) | exact Or.inl rfl | exact Or.inr rfl) (by first | omega | (intro h; omega) | exact Or.inl rfl | exact Or.inr rfl) (by first | omega | (intro h; omega) | exact Or.inl rfl | exact Or.inr rfl) k_142 k_143 w_144 (by omega)
          · have d_149 := iEq c_130
            refine y_Model_fails hok hw ra hz14 hz15 (by first | omega | (intro h; omega) | exact Or.inl rfl | exact Or.inr rfl) hR_91 (fun I_153 L_154 hR_155 fr_156 kp_157 u_151 u_152 => ⟨I_153, L_154, rfl, rfl, ?_⟩)
            have hf_158 : Fm (fun c => c = o ∨ c = o + 8 ∨ (o + 16 ≤ c ∧ c < o + 19)) I0 I_153 := hf_94.call fr_156 (fun c hc => by first | exact hc | (dsimp only at hc ⊢; omega) | omega)
            have t_159 : (I_153 o 3).toInt = (I_89 o 3).toInt := by rw [kp_157 3 rfl]
            have g_160 : (0 : Int) ≤ (I_153 o 4).toInt ∧ (I_153 o 4).toInt ≤ 5 := hR_155.at0 ra 4 (by decide)
            have t_161 : (I_153 o 6).toInt = (I_89 o 6).toInt := by rw [kp_157 6 rfl]
            have t_162 : (I_153 o 7).toInt = (I_89 o 7).toInt := by rw [kp_157 7 rfl]
            have t_163 : (I_153 o 8).toInt = (I_89 o 8).toInt := by rw [kp_157 8 rfl]
            have t_164 : (I_153 o 9).toInt = (I_89 o 9).toInt := by rw [kp_157 9 rfl]
            have k_165 : MPo I_153 o := u_87.fr (kp_157 8 rfl) (kp_157 9 rfl)
            have k_166 : MTk I_153 o := u_88.fr (kp_157 6 rfl) (kp_157 7 rfl) (kp_157 8 rfl)
            have w_167 : I_153 (o + 8) = I0 (o + 8) := (fr_156 (o + 8) (by first | omega | (dsimp only; omega))).trans w_100
            unfold fModel_readPan_153
            refine ⟨tIn (by omega) (by omega), ?_⟩
            refine ⟨tIn (by omega) (by omega), fun I_168 e_169 => ?_⟩
            have hR_170 : RI R I_168 := hR_155.up ra 18 (by decide) (Or.inl rfl) e_169 (i_lo _) (i_hi _)
            have hf_171 : Fm (fun c => c = o ∨ c = o + 8 ∨ (o + 16 ≤ c ∧ c < o + 19)) I0 I_168 := hf_158.set (by first | rfl | omega | (dsimp only; omega)) e_169
            have t_172 : (I_168 o 3).toInt = (I_153 o 3).toInt := by rw [← e_169, q_u_ne (by omega)]
            have t_173 : (I_168 o 4).toInt = (I_153 o 4).toInt := by rw [← e_169, q_u_ne (by omega)]
            have t_174 : (I_168 o 6).toInt = (I_153 o 6).toInt := by rw [← e_169, q_u_ne (by omega)]
            have t_175 : (I_168 o 7).toInt = (I_153 o 7).toInt := by rw [← e_169, q_u_ne (by omega)]
            have t_176 : (I_168 o 8).toInt = (I_153 o 8).toInt := by rw [← e_169, q_u_ne (by omega)]
            have t_177 : (I_168 o 9).toInt = (I_153 o 9).toInt := by rw [← e_169, q_u_ne (by omega)]
            have k_178 : MPo I_168 o := k_165.fr (by rw [← e_169, q_u_ne (by omega)]) (by rw [← e_169, q_u_ne (by omega)])
            have k_179 : MTk I_168 o := k_166.fr (by rw [← e_169, q_u_ne (by omega)]) (by rw [← e_169, q_u_ne (by omega)]) (by rw [← e_169, q_u_ne (by omega)])
            have w_180 : I_168 (o + 8) = I0 (o + 8) := by rw [← e_169, q_u_ne (by omega)]; exact w_167
            have g_181 : (0 : Int) ≤ (I_168 o 8).toInt ∧ (I_168 o 8).toInt ≤ 6 := hR_170.at0 ra 8 (by decide)
            refine ⟨fun c_182 => ?_, fun c_182 => ?_⟩
            · have d_183 := iNe c_182
              unfold fModel_readPan_179
              exact ih hR_170 hf_171 (by first | omega | (intro h; omega) | exact Or.inl rfl | exact Or.inr rfl) (by first | omega | (intro h; omega) | exact Or.inl rfl | exact Or.inr rfl) (by first | omega | (intro h; omega) | exact Or.inl rfl | exact Or.inr rfl) (by first | omega | (intro h; omega) | exact Or.inl rfl | exact Or.inr rfl) (by first | omega | (intro h; omega) | exact Or.inl rfl | exact Or.inr rfl) k_178 k_179 w_180 (by omega)
            · have d_184 := iEq c_182
              unfold fModel_readPan_179
              exact ih hR_170 hf_171 (by first | omega | (intro h; omega) | exact Or.inl rfl | exact Or.inr rfl) (by first | omega | (intro h; omega) | exact Or.inl rfl | exact Or.inr rfl) (by first | omega | (intro h; omega) | exact Or.inl rfl | exact Or.inr rfl) (by first | omega | (intro h; omega) | exact Or.inl rfl | exact Or.inr rfl) (by first | omega | (intro h; omega) | exact Or.inl rfl | exact Or.inr rfl) k_178 k_179 w_180 (by omega)
set_option maxHeartbeats 4000000 in
set_option maxRecDepth 20000 in
theorem yModel_readPan_50 {D : va_G} {cA : FieldType → ClassId} {b : Nat} {E : State → Prop} {R : qRg} {o n : Nat} {sh : Nat → qC} {Rf : Nat → Nat → Option Nat} {I0 : Nat → Nat → Int32} {L0 : Nat → Nat → Int64} {post : Option Value → qS → Prop} (hok : q_ok (qGG D cA b E)) (hw : WfModel (qGG D cA b E) n sh Rf o) (ra : RAModel R o) (hz14 : R.2 14 = true) (hz15 : R.2 15 = true) (hz16 : R.2 16 = true) (hz17 : R.2 17 = true) (hz18 : R.2 18 = true) (hz19 : R.2 19 = true) (hZ : Fz R I0 o wModel_readPan) (hR0 : RI R I0) (hq0 : (I0 o 7).toInt ≤ (I0 o 3).toInt) (hq1 : (I0 (o + 8) (I0 o 35 : Int32).toNatClampNeg).toInt ≤ 2) (hq2 : MPo I0 o) (hq3 : MTk I0 o) (hp : ∀ (I' : Nat → Nat → Int32) (L' : Nat → Nat → Int64), RI R I' → Fm (fun c => c = o ∨ c = o + 8 ∨ (o + 16 ≤ c ∧ c < o + 19)) I0 I' → ((I' o 7).toInt ≤ (I' o 3).toInt) → ((I0 o 7).toInt ≤ (I' o 7).toInt) → ((I0 o 4).toInt ≤ (I' o 4).toInt) → (7 * (I0 o 7).toInt - (I0 o 8).toInt + (I0 o 4).toInt ≤ 7 * (I' o 7).toInt - (I' o 8).toInt + (I' o 4).toInt) → (MPo I' o) → (MTk I' o) → post none (n, sh, Rf, I', L')) : ∀ (k : Nat) {x1 : Int32} {x2 : Int32} {I : Nat → Nat → Int32} {L : Nat → Nat → Int64}, RI R I → Fm (fun c => c = o ∨ c = o + 8 ∨ (o + 16 ≤ c ∧ c < o + 19)) I0 I → ((0 : Int) ≤ x1.toInt ∧ x1.toInt ≤ 5) → ((0 : Int) ≤ x2.toInt ∧ x2.toInt ≤ 12) → ((I o 7).toInt ≤ (I o 3).toInt) → ((I0 o 7).toInt ≤ (I o 7).toInt) → ((I0 o 4).toInt ≤ (I o 4).toInt) → (7 * (I0 o 7).toInt - (I0 o 8).toInt + (I0 o 4).toInt ≤ 7 * (I o 7).toInt - (I o 8).toInt + (I o 4).toInt) → (MPo I o) → (MTk I o) → (I (o + 8) = I0 (o + 8)) → (12 - x2.toInt).toNat < k → Ev (qGG D cA b E) mModel_readPan 5 (0, 0) 50 [(0, .ref o), (1, .int x1), (2, .int x2)] [] (n, sh, Rf, I, L) post := by
  intro k
  induction k with
  | zero =>
    intro x1 x2 I L hR hf hi0 hi1 hi2 hi3 hi4 hi5 hi6 hi7 hi8 hm
    exact absurd hm (Nat.not_lt_zero _)
  | succ k ih =>
    intro x1 x2 I L hR hf hi0 hi1 hi2 hi3 hi4 hi5 hi6 hi7 hi8 hm
    have g_185 : (0 : Int) ≤ (I o 3).toInt ∧ (I o 3).toInt ≤ 1600 := hR.at0 ra 3 (by decide)
    have z_186 : (I o 3).toInt = (I0 o 3).toInt := by rw [hZ I 3 rfl hR]
    have g_187 : (0 : Int) ≤ (I o 4).toInt ∧ (I o 4).toInt ≤ 5 := hR.at0 ra 4 (by decide)
    have g_188 : (0 : Int) ≤ (I0 o 4).toInt ∧ (I0 o 4).toInt ≤ 5 := hR0.at0 ra 4 (by decide)
    have g_189 : (0 : Int) ≤ (I o 6).toInt ∧ (I o 6).toInt ≤ 1600 := hR.at0 ra 6 (by decide)
    have g_190 : (0 : Int) ≤ (I0 o 6).toInt ∧ (I0 o 6).toInt ≤ 1600 := hR0.at0 ra 6 (by decide)
    have g_191 : (0 : Int) ≤ (I o 7).toInt ∧ (I o 7).toInt ≤ 1601 := hR.at0 ra 7 (by decide)
    have g_192 : (0 : Int) ≤ (I0 o 7).toInt ∧ (I0 o 7).toInt ≤ 1601 := hR0.at0 ra 7 (by decide)
    have g_193 : (0 : Int) ≤ (I o 8).toInt ∧ (I o 8).toInt ≤ 6 := hR.at0 ra 8 (by decide)
    have g_194 : (0 : Int) ≤ (I0 o 8).toInt ∧ (I0 o 8).toInt ≤ 6 := hR0.at0 ra 8 (by decide)
    refine sModel_readPan_50 o n sh Rf I L post x1 x2 hok hw ?_
    unfold fModel_readPan_50
    have l_195 : (12 : Int32).toInt = 12 := rfl
    refine ⟨fun c_196 => ?_, fun c_196 => ?_⟩
    · have d_197 := iLe c_196
      refine y_Model_isWord hok hw ra hR (fun r_198 u_199 u_200 => ⟨r_198, I, L, rfl, rfl, ?_⟩)
      have b_201 : 0 ≤ r_198.toInt ∧ r_198.toInt ≤ 1 := u_199.rg
      refine y_Model_must hok hw ra hz14 hz15 hz16 hz17 hz18 hz19 (by first | omega | (intro h; omega) | exact Or.inl rfl | exact Or.inr rfl) hi6 hi7 hR (fun I_212 L_213 hR_214 fr_215 kp_216 u_203 u_204 u_205 u_206 u_207 u_208 u_209 u_210 u_211 => ⟨I_212, L_213, rfl, rfl, ?_⟩)
      have hf_217 : Fm (fun c => c = o ∨ c = o + 8 ∨ (o + 16 ≤ c ∧ c < o + 19)) I0 I_212 := hf.call fr_215 (fun c hc => by first | exact hc | (dsimp only at hc ⊢; omega) | omega)
      have t_218 : (I_212 o 3).toInt = (I o 3).toInt := by rw [kp_216 3 rfl]
      have g_219 : (0 : Int) ≤ (I_212 o 4).toInt ∧ (I_212 o 4).toInt ≤ 5 := hR_214.at0 ra 4 (by decide)
      have g_220 : (0 : Int) ≤ (I_212 o 6).toInt ∧ (I_212 o 6).toInt ≤ 1600 := hR_214.at0 ra 6 (by decide)
      have g_221 : (0 : Int) ≤ (I_212 o 7).toInt ∧ (I_212 o 7).toInt ≤ 1601 := hR_214.at0 ra 7 (by decide)
      have g_222 : (0 : Int) ≤ (I_212 o 8).toInt ∧ (I_212 o 8).toInt ≤ 6 := hR_214.at0 ra 8 (by decide)
      have s_223 : (I0 o 7).toInt ≤ (I_212 o 7).toInt := by omega
      have s_224 : (I0 o 4).toInt ≤ (I_212 o 4).toInt := by omega
      have s_225 : (I_212 o 7).toInt ≤ (I_212 o 3).toInt := by omega
      have s_226 : 7 * (I0 o 7).toInt - (I0 o 8).toInt + (I0 o 4).toInt ≤ 7 * (I_212 o 7).toInt - (I_212 o 8).toInt + (I_212 o 4).toInt := by omega
      clear t_218 g_219 g_220 g_221 g_222 u_203 u_204 u_205 u_206 u_208
      have t_227 : (I_212 o 3).toInt = (I0 o 3).toInt := by rw [hZ I_212 3 rfl hR_214]
      have g_228 : (0 : Int) ≤ (I_212 o 3).toInt ∧ (I_212 o 3).toInt ≤ 1600 := hR_214.at0 ra 3 (by decide)
      have g_229 : (0 : Int) ≤ (I_212 o 4).toInt ∧ (I_212 o 4).toInt ≤ 5 := hR_214.at0 ra 4 (by decide)
      have g_230 : (0 : Int) ≤ (I_212 o 6).toInt ∧ (I_212 o 6).toInt ≤ 1600 := hR_214.at0 ra 6 (by decide)
      have g_231 : (0 : Int) ≤ (I_212 o 7).toInt ∧ (I_212 o 7).toInt ≤ 1601 := hR_214.at0 ra 7 (by decide)
      have g_232 : (0 : Int) ≤ (I_212 o 8).toInt ∧ (I_212 o 8).toInt ≤ 6 := hR_214.at0 ra 8 (by decide)
      have w_233 : I_212 (o + 8) = I0 (o + 8) := (fr_215 (o + 8) (by first | omega | (dsimp only; omega))).trans hi8
      have l_234 : (0 : Int32).toInt = 0 := rfl
      refine ⟨tIn (by omega) (by omega), fun I_235 e_236 => ?_⟩
      have hR_237 : RI R I_235 := hR_214.up ra 18 (by decide) (Or.inl rfl) e_236 (i_lo _) (i_hi _)
      have hf_238 : Fm (fun c => c = o ∨ c = o + 8 ∨ (o + 16 ≤ c ∧ c < o + 19)) I0 I_235 := hf_217.set (by first | rfl | omega | (dsimp only; omega)) e_236
      have t_239 : (I_235 o 3).toInt = (I_212 o 3).toInt := by rw [← e_236, q_u_ne (by omega)]
      have t_240 : (I_235 o 4).toInt = (I_212 o 4).toInt := by rw [← e_236, q_u_ne (by omega)]
      have t_241 : (I_235 o 6).toInt = (I_212 o 6).toInt := by rw [← e_236, q_u_ne (by omega)]
      have t_242 : (I_235 o 7).toInt = (I_212 o 7).toInt := by rw [← e_236, q_u_ne (by omega)]
      have t_243 : (I_235 o 8).toInt = (I_212 o 8).toInt := by rw [← e_236, q_u_ne (by omega)]
      have t_244 : (I_235 o 9).toInt = (I_212 o 9).toInt := by rw [← e_236, q_u_ne (by omega)]
      have k_245 : MPo I_235 o := u_210.fr (by rw [← e_236, q_u_ne (by omega)]) (by rw [← e_236, q_u_ne (by omega)])
      have k_246 : MTk I_235 o := u_211.fr (by rw [← e_236, q_u_ne (by omega)]) (by rw [← e_236, q_u_ne (by omega)]) (by rw [← e_236, q_u_ne (by omega)])
      have w_247 : I_235 (o + 8) = I0 (o + 8) := by rw [← e_236, q_u_ne (by omega)]; exact w_233
      have l_248 : (1 : Int32).toInt = 1 := rfl
      exact yModel_readPan_101 (I0 := I0) (L0 := L0) hok hw ra hz14 hz15 hz16 hz17 hz18 hz19 hZ hR0 hq0 hq1 hq2 hq3 hp  _ hR_237 hf_238 (by first | omega | (intro h; omega) | exact Or.inl rfl | exact Or.inr rfl) (by first | omega | (intro h; omega) | exact Or.inl rfl | exact Or.inr rfl) (by first | omega | (intro h; omega) | exact Or.inl rfl | exact Or.inr rfl) (by first | omega | (intro h; omega) | exact Or.inl rfl | exact Or.inr rfl) (by first | omega | (intro h; omega) | exact Or.inl rfl | exact Or.inr rfl) k_245 k_246 w_247 (Nat.lt_succ_self _)
    · have d_249 := iNle c_196
      have a_250 : (12 * x1).toInt = 12 * x1.toInt := tMulL rfl (by omega) (by omega)
      have a_251 : ((12 * x1) + x2).toInt = (12 * x1).toInt + x2.toInt := tAdd (by omega) (by omega)
      have l_252 : (0 : Int32).toInt = 0 := rfl
      have l_253 : (999 : Int32).toInt = 999 := rfl
      refine y_Model_numeral hok hw ra hz14 hz15 hz16 hz17 hz18 hz19 (by first | omega | (intro h; omega) | exact Or.inl rfl | exact Or.inr rfl) hi6 hi7 hR (fun r_254 I_262 L_263 hR_264 fr_265 kp_266 u_255 u_256 u_257 u_258 u_259 u_260 u_261 => ⟨r_254, I_262, L_263, rfl, rfl, ?_⟩)
      have hf_267 : Fm (fun c => c = o ∨ c = o + 8 ∨ (o + 16 ≤ c ∧ c < o + 19)) I0 I_262 := hf.call fr_265 (fun c hc => by first | exact hc | (dsimp only at hc ⊢; omega) | omega)
      have t_268 : (I_262 o 3).toInt = (I o 3).toInt := by rw [kp_266 3 rfl]
      have g_269 : (0 : Int) ≤ (I_262 o 4).toInt ∧ (I_262 o 4).toInt ≤ 5 := hR_264.at0 ra 4 (by decide)
      have g_270 : (0 : Int) ≤ (I_262 o 6).toInt ∧ (I_262 o 6).toInt ≤ 1600 := hR_264.at0 ra 6 (by decide)
      have g_271 : (0 : Int) ≤ (I_262 o 7).toInt ∧ (I_262 o 7).toInt ≤ 1601 := hR_264.at0 ra 7 (by decide)
      have g_272 : (0 : Int) ≤ (I_262 o 8).toInt ∧ (I_262 o 8).toInt ≤ 6 := hR_264.at0 ra 8 (by decide)
      have s_273 : (I0 o 7).toInt ≤ (I_262 o 7).toInt := by omega
      have s_274 : (I0 o 4).toInt ≤ (I_262 o 4).toInt := by omega
      have s_275 : (I_262 o 7).toInt ≤ (I_262 o 3).toInt := by omega
      have s_276 : 7 * (I0 o 7).toInt - (I0 o 8).toInt + (I0 o 4).toInt ≤ 7 * (I_262 o 7).toInt - (I_262 o 8).toInt + (I_262 o 4).toInt := by omega
      clear t_268 g_269 g_270 g_271 g_272 u_255 u_256 u_257 u_258
      have t_277 : (I_262 o 3).toInt = (I0 o 3).toInt := by rw [hZ I_262 3 rfl hR_264]
      have g_278 : (0 : Int) ≤ (I_262 o 3).toInt ∧ (I_262 o 3).toInt ≤ 1600 := hR_264.at0 ra 3 (by decide)
      have g_279 : (0 : Int) ≤ (I_262 o 4).toInt ∧ (I_262 o 4).toInt ≤ 5 := hR_264.at0 ra 4 (by decide)
      have g_280 : (0 : Int) ≤ (I_262 o 6).toInt ∧ (I_262 o 6).toInt ≤ 1600 := hR_264.at0 ra 6 (by decide)
      have g_281 : (0 : Int) ≤ (I_262 o 7).toInt ∧ (I_262 o 7).toInt ≤ 1601 := hR_264.at0 ra 7 (by decide)
      have g_282 : (0 : Int) ≤ (I_262 o 8).toInt ∧ (I_262 o 8).toInt ≤ 6 := hR_264.at0 ra 8 (by decide)
      have w_283 : I_262 (o + 8) = I0 (o + 8) := (fr_265 (o + 8) (by first | omega | (dsimp only; omega))).trans hi8
      refine ⟨tIn (by omega) (by omega), fun I_284 e_285 => ?_⟩
      have hR_286 : RI R I_284 := hR_264.up ra 17 (by decide) (Or.inl rfl) e_285 (i_lo _) (i_hi _)
      have hf_287 : Fm (fun c => c = o ∨ c = o + 8 ∨ (o + 16 ≤ c ∧ c < o + 19)) I0 I_284 := hf_267.set (by first | rfl | omega | (dsimp only; omega)) e_285
      have t_288 : (I_284 o 3).toInt = (I_262 o 3).toInt := by rw [← e_285, q_u_ne (by omega)]
      have t_289 : (I_284 o 4).toInt = (I_262 o 4).toInt := by rw [← e_285, q_u_ne (by omega)]
      have t_290 : (I_284 o 6).toInt = (I_262 o 6).toInt := by rw [← e_285, q_u_ne (by omega)]
      have t_291 : (I_284 o 7).toInt = (I_262 o 7).toInt := by rw [← e_285, q_u_ne (by omega)]
      have t_292 : (I_284 o 8).toInt = (I_262 o 8).toInt := by rw [← e_285, q_u_ne (by omega)]
      have t_293 : (I_284 o 9).toInt = (I_262 o 9).toInt := by rw [← e_285, q_u_ne (by omega)]
      have k_294 : MPo I_284 o := u_260.fr (by rw [← e_285, q_u_ne (by omega)]) (by rw [← e_285, q_u_ne (by omega)])
      have k_295 : MTk I_284 o := u_261.fr (by rw [← e_285, q_u_ne (by omega)]) (by rw [← e_285, q_u_ne (by omega)]) (by rw [← e_285, q_u_ne (by omega)])
      have w_296 : I_284 (o + 8) = I0 (o + 8) := by rw [← e_285, q_u_ne (by omega)]; exact w_283
      have a_298 : (x2 + Int32.ofInt 1).toInt = x2.toInt + (1) := tIc (by omega) (by omega) (by decide) (by decide)
      generalize ez_297 : (x2 + Int32.ofInt 1) = z_297 at a_298 ⊢
      exact ih hR_286 hf_287 (by first | omega | (intro h; omega) | exact Or.inl rfl | exact Or.inr rfl) (by first | omega | (intro h; omega) | exact Or.inl rfl | exact Or.inr rfl) (by first | omega | (intro h; omega) | exact Or.inl rfl | exact Or.inr rfl) (by first | omega | (intro h; omega) | exact Or.inl rfl | exact Or.inr rfl) (by first | omega | (intro h; omega) | exact Or.inl rfl | exact Or.inr rfl) (by first | omega | (intro h; omega) | exact Or.inl rfl | exact Or.inr rfl) k_294 k_295 w_296 (by omega)
set_option maxHeartbeats 4000000 in
set_option maxRecDepth 20000 in
theorem yc_Model_readPan {D : va_G} {cA : FieldType → ClassId} {b : Nat} {E : State → Prop} {R : qRg} {o n : Nat} {sh : Nat → qC} {Rf : Nat → Nat → Option Nat} {I0 : Nat → Nat → Int32} {L0 : Nat → Nat → Int64} {post : Option Value → qS → Prop} (hok : q_ok (qGG D cA b E)) (hw : WfModel (qGG D cA b E) n sh Rf o) (ra : RAModel R o) (hz14 : R.2 14 = true) (hz15 : R.2 15 = true) (hz16 : R.2 16 = true) (hz17 : R.2 17 = true) (hz18 : R.2 18 = true) (hz19 : R.2 19 = true) (hZ : Fz R I0 o wModel_readPan) (hR0 : RI R I0) (hq0 : (I0 o 7).toInt ≤ (I0 o 3).toInt) (hq1 : (I0 (o + 8) (I0 o 35 : Int32).toNatClampNeg).toInt ≤ 2) (hq2 : MPo I0 o) (hq3 : MTk I0 o) (hR : RI R I0) (hp : ∀ (I' : Nat → Nat → Int32) (L' : Nat → Nat → Int64), RI R I' → Fm (fun c => c = o ∨ c = o + 8 ∨ (o + 16 ≤ c ∧ c < o + 19)) I0 I' → ((I' o 7).toInt ≤ (I' o 3).toInt) → ((I0 o 7).toInt ≤ (I' o 7).toInt) → ((I0 o 4).toInt ≤ (I' o 4).toInt) → (7 * (I0 o 7).toInt - (I0 o 8).toInt + (I0 o 4).toInt ≤ 7 * (I' o 7).toInt - (I' o 8).toInt + (I' o 4).toInt) → (MPo I' o) → (MTk I' o) → post none (n, sh, Rf, I', L')) : Ev (qGG D cA b E) mModel_readPan 5 (0, 0) 0 (lv_args 0 [.ref o]) [] (n, sh, Rf, I0, L0) post := by
  have hf : Fm (fun c => c = o ∨ c = o + 8 ∨ (o + 16 ≤ c ∧ c < o + 19)) I0 I0 := Fm.rf
  have g_299 : (0 : Int) ≤ (I0 o 3).toInt ∧ (I0 o 3).toInt ≤ 1600 := hR.at0 ra 3 (by decide)
  have g_300 : (0 : Int) ≤ (I0 o 4).toInt ∧ (I0 o 4).toInt ≤ 5 := hR.at0 ra 4 (by decide)
  have g_301 : (0 : Int) ≤ (I0 o 6).toInt ∧ (I0 o 6).toInt ≤ 1600 := hR.at0 ra 6 (by decide)
  have g_302 : (0 : Int) ≤ (I0 o 7).toInt ∧ (I0 o 7).toInt ≤ 1601 := hR.at0 ra 7 (by decide)
  have g_303 : (0 : Int) ≤ (I0 o 8).toInt ∧ (I0 o 8).toInt ≤ 6 := hR.at0 ra 8 (by decide)
  refine sModel_readPan_0 o n sh Rf I0 L0 post  hok hw ?_
  unfold fModel_readPan_0
  have g_304 : (0 : Int) ≤ (I0 o 35).toInt ∧ (I0 o 35).toInt ≤ 1 := hR.at0 ra 35 (by decide)
  have l_305 : (3 : Int32).toInt = 3 := rfl
  have a_306 : (3 * (I0 o 35)).toInt = 3 * (I0 o 35).toInt := tMulL rfl (by omega) (by omega)
  have g_307 : (0 : Int) ≤ (I0 o 35).toInt ∧ (I0 o 35).toInt ≤ 1 := hR.at0 ra 35 (by decide)
  refine ⟨tIn (by omega) (by omega), ?_⟩
  have g_308 : (0 : Int) ≤ (I0 (o + 8) ((I0 o 35) : Int32).toNatClampNeg).toInt ∧ (I0 (o + 8) ((I0 o 35) : Int32).toNatClampNeg).toInt ≤ 3 := hR.at ra 8 _ (by decide)
  have a_309 : ((3 * (I0 o 35)) + (I0 (o + 8) ((I0 o 35) : Int32).toNatClampNeg)).toInt = (3 * (I0 o 35)).toInt + (I0 (o + 8) ((I0 o 35) : Int32).toNatClampNeg).toInt := tAdd (by omega) (by omega)
  refine y_Model_newName hok hw ra hz14 hz15 hz16 hz17 hz18 hz19 (by first | omega | (intro h; omega) | exact Or.inl rfl | exact Or.inr rfl) hq2 hq3 hR (fun r_310 I_317 L_318 hR_319 fr_320 kp_321 u_311 u_312 u_313 u_314 u_315 u_316 => ⟨r_310, I_317, L_318, rfl, rfl, ?_⟩)
  have hf_322 : Fm (fun c => c = o ∨ c = o + 8 ∨ (o + 16 ≤ c ∧ c < o + 19)) I0 I_317 := hf.call fr_320 (fun c hc => by first | exact hc | (dsimp only at hc ⊢; omega) | omega)
  have t_323 : (I_317 o 3).toInt = (I0 o 3).toInt := by rw [kp_321 3 rfl]
  have g_324 : (0 : Int) ≤ (I_317 o 4).toInt ∧ (I_317 o 4).toInt ≤ 5 := hR_319.at0 ra 4 (by decide)
  have g_325 : (0 : Int) ≤ (I_317 o 6).toInt ∧ (I_317 o 6).toInt ≤ 1600 := hR_319.at0 ra 6 (by decide)
  have g_326 : (0 : Int) ≤ (I_317 o 7).toInt ∧ (I_317 o 7).toInt ≤ 1601 := hR_319.at0 ra 7 (by decide)
  have g_327 : (0 : Int) ≤ (I_317 o 8).toInt ∧ (I_317 o 8).toInt ≤ 6 := hR_319.at0 ra 8 (by decide)
  have t_328 : (I_317 o 35).toInt = (I0 o 35).toInt := by rw [kp_321 35 rfl]
  have s_329 : (I0 o 7).toInt ≤ (I_317 o 7).toInt := by omega
  have s_330 : (I0 o 4).toInt ≤ (I_317 o 4).toInt := by omega
  have s_331 : (I_317 o 7).toInt ≤ (I_317 o 3).toInt := by omega
  have s_332 : 7 * (I0 o 7).toInt - (I0 o 8).toInt + (I0 o 4).toInt ≤ 7 * (I_317 o 7).toInt - (I_317 o 8).toInt + (I_317 o 4).toInt := by omega
  clear t_323 g_324 g_325 g_326 g_327 t_328 u_311 u_312 u_313 u_314
  have t_333 : (I_317 o 3).toInt = (I0 o 3).toInt := by rw [hZ I_317 3 rfl hR_319]
  have g_334 : (0 : Int) ≤ (I_317 o 3).toInt ∧ (I_317 o 3).toInt ≤ 1600 := hR_319.at0 ra 3 (by decide)
  have g_335 : (0 : Int) ≤ (I_317 o 4).toInt ∧ (I_317 o 4).toInt ≤ 5 := hR_319.at0 ra 4 (by decide)
  have g_336 : (0 : Int) ≤ (I_317 o 6).toInt ∧ (I_317 o 6).toInt ≤ 1600 := hR_319.at0 ra 6 (by decide)
  have g_337 : (0 : Int) ≤ (I_317 o 7).toInt ∧ (I_317 o 7).toInt ≤ 1601 := hR_319.at0 ra 7 (by decide)
  have g_338 : (0 : Int) ≤ (I_317 o 8).toInt ∧ (I_317 o 8).toInt ≤ 6 := hR_319.at0 ra 8 (by decide)
  have t_339 : (I_317 o 35).toInt = (I0 o 35).toInt := by rw [hZ I_317 35 rfl hR_319]
  have g_340 : (0 : Int) ≤ (I_317 o 35).toInt ∧ (I_317 o 35).toInt ≤ 1 := hR_319.at0 ra 35 (by decide)
  have w_341 : I_317 (o + 8) = I0 (o + 8) := (fr_320 (o + 8) (by first | omega | (dsimp only; omega)))
  refine ⟨tIn (by omega) (by omega), fun L_342 e_343 => ?_⟩
  refine y_Model_point hok hw ra hz14 hz15 hz16 hz17 hz18 hz19 (by first | omega | (intro h; omega) | exact Or.inl rfl | exact Or.inr rfl) u_315 u_316 hR_319 (fun r_344 I_352 L_353 hR_354 fr_355 kp_356 u_345 u_346 u_347 u_348 u_349 u_350 u_351 => ⟨r_344, I_352, L_353, rfl, rfl, ?_⟩)
  have hf_357 : Fm (fun c => c = o ∨ c = o + 8 ∨ (o + 16 ≤ c ∧ c < o + 19)) I0 I_352 := hf_322.call fr_355 (fun c hc => by first | exact hc | (dsimp only at hc ⊢; omega) | omega)
  have t_358 : (I_352 o 3).toInt = (I_317 o 3).toInt := by rw [kp_356 3 rfl]
  have g_359 : (0 : Int) ≤ (I_352 o 4).toInt ∧ (I_352 o 4).toInt ≤ 5 := hR_354.at0 ra 4 (by decide)
  have g_360 : (0 : Int) ≤ (I_352 o 6).toInt ∧ (I_352 o 6).toInt ≤ 1600 := hR_354.at0 ra 6 (by decide)
  have g_361 : (0 : Int) ≤ (I_352 o 7).toInt ∧ (I_352 o 7).toInt ≤ 1601 := hR_354.at0 ra 7 (by decide)
  have g_362 : (0 : Int) ≤ (I_352 o 8).toInt ∧ (I_352 o 8).toInt ≤ 6 := hR_354.at0 ra 8 (by decide)
  have t_363 : (I_352 o 35).toInt = (I_317 o 35).toInt := by rw [kp_356 35 rfl]
  have s_364 : (I0 o 7).toInt ≤ (I_352 o 7).toInt := by omega
  have s_365 : (I0 o 4).toInt ≤ (I_352 o 4).toInt := by omega
  have s_366 : (I_352 o 7).toInt ≤ (I_352 o 3).toInt := by omega
  have s_367 : 7 * (I0 o 7).toInt - (I0 o 8).toInt + (I0 o 4).toInt ≤ 7 * (I_352 o 7).toInt - (I_352 o 8).toInt + (I_352 o 4).toInt := by omega
  clear s_329 s_330 s_331 s_332 t_333 g_334 g_335 g_336 g_337 g_338 t_339 g_340 t_358 g_359 g_360 g_361 g_362 t_363 u_346 u_347 u_348 u_349
  have t_368 : (I_352 o 3).toInt = (I0 o 3).toInt := by rw [hZ I_352 3 rfl hR_354]
  have g_369 : (0 : Int) ≤ (I_352 o 3).toInt ∧ (I_352 o 3).toInt ≤ 1600 := hR_354.at0 ra 3 (by decide)
  have g_370 : (0 : Int) ≤ (I_352 o 4).toInt ∧ (I_352 o 4).toInt ≤ 5 := hR_354.at0 ra 4 (by decide)
  have g_371 : (0 : Int) ≤ (I_352 o 6).toInt ∧ (I_352 o 6).toInt ≤ 1600 := hR_354.at0 ra 6 (by decide)
  have g_372 : (0 : Int) ≤ (I_352 o 7).toInt ∧ (I_352 o 7).toInt ≤ 1601 := hR_354.at0 ra 7 (by decide)
  have g_373 : (0 : Int) ≤ (I_352 o 8).toInt ∧ (I_352 o 8).toInt ≤ 6 := hR_354.at0 ra 8 (by decide)
  have t_374 : (I_352 o 35).toInt = (I0 o 35).toInt := by rw [hZ I_352 35 rfl hR_354]
  have g_375 : (0 : Int) ≤ (I_352 o 35).toInt ∧ (I_352 o 35).toInt ≤ 1 := hR_354.at0 ra 35 (by decide)
  have w_376 : I_352 (o + 8) = I0 (o + 8) := (fr_355 (o + 8) (by first | omega | (dsimp only; omega))).trans w_341
  refine ⟨tIn (by omega) (by omega), fun I_377 e_378 => ?_⟩
  have hR_379 : RI R I_377 := hR_354.up ra 16 (by decide) (Or.inl rfl) e_378 (show (0 : Int) ≤ r_344.toInt by omega) (show r_344.toInt ≤ (15 : Int) by omega)
  have hf_380 : Fm (fun c => c = o ∨ c = o + 8 ∨ (o + 16 ≤ c ∧ c < o + 19)) I0 I_377 := hf_357.set (by first | rfl | omega | (dsimp only; omega)) e_378
  have t_381 : (I_377 o 3).toInt = (I_352 o 3).toInt := by rw [← e_378, q_u_ne (by omega)]
  have t_382 : (I_377 o 4).toInt = (I_352 o 4).toInt := by rw [← e_378, q_u_ne (by omega)]
  have t_383 : (I_377 o 6).toInt = (I_352 o 6).toInt := by rw [← e_378, q_u_ne (by omega)]
  have t_384 : (I_377 o 7).toInt = (I_352 o 7).toInt := by rw [← e_378, q_u_ne (by omega)]
  have t_385 : (I_377 o 8).toInt = (I_352 o 8).toInt := by rw [← e_378, q_u_ne (by omega)]
  have t_386 : (I_377 o 9).toInt = (I_352 o 9).toInt := by rw [← e_378, q_u_ne (by omega)]
  have t_387 : (I_377 o 35).toInt = (I_352 o 35).toInt := by rw [← e_378, q_u_ne (by omega)]
  have k_388 : MPo I_377 o := u_350.fr (by rw [← e_378, q_u_ne (by omega)]) (by rw [← e_378, q_u_ne (by omega)])
  have k_389 : MTk I_377 o := u_351.fr (by rw [← e_378, q_u_ne (by omega)]) (by rw [← e_378, q_u_ne (by omega)]) (by rw [← e_378, q_u_ne (by omega)])
  have w_390 : I_377 (o + 8) = I0 (o + 8) := by rw [← e_378, q_u_ne (by omega)]; exact w_376
  refine y_Model_isWord hok hw ra hR_379 (fun r_391 u_392 u_393 => ⟨r_391, I_377, L_353, rfl, rfl, ?_⟩)
  have b_394 : 0 ≤ r_391.toInt ∧ r_391.toInt ≤ 1 := u_392.rg
  refine y_Model_must hok hw ra hz14 hz15 hz16 hz17 hz18 hz19 (by first | omega | (intro h; omega) | exact Or.inl rfl | exact Or.inr rfl) k_388 k_389 hR_379 (fun I_405 L_406 hR_407 fr_408 kp_409 u_396 u_397 u_398 u_399 u_400 u_401 u_402 u_403 u_404 => ⟨I_405, L_406, rfl, rfl, ?_⟩)
  have hf_410 : Fm (fun c => c = o ∨ c = o + 8 ∨ (o + 16 ≤ c ∧ c < o + 19)) I0 I_405 := hf_380.call fr_408 (fun c hc => by first | exact hc | (dsimp only at hc ⊢; omega) | omega)
  have t_411 : (I_405 o 3).toInt = (I_377 o 3).toInt := by rw [kp_409 3 rfl]
  have g_412 : (0 : Int) ≤ (I_405 o 4).toInt ∧ (I_405 o 4).toInt ≤ 5 := hR_407.at0 ra 4 (by decide)
  have g_413 : (0 : Int) ≤ (I_405 o 6).toInt ∧ (I_405 o 6).toInt ≤ 1600 := hR_407.at0 ra 6 (by decide)
  have g_414 : (0 : Int) ≤ (I_405 o 7).toInt ∧ (I_405 o 7).toInt ≤ 1601 := hR_407.at0 ra 7 (by decide)
  have g_415 : (0 : Int) ≤ (I_405 o 8).toInt ∧ (I_405 o 8).toInt ≤ 6 := hR_407.at0 ra 8 (by decide)
  have t_416 : (I_405 o 35).toInt = (I_377 o 35).toInt := by rw [kp_409 35 rfl]
  have s_417 : (I0 o 7).toInt ≤ (I_405 o 7).toInt := by omega
  have s_418 : (I0 o 4).toInt ≤ (I_405 o 4).toInt := by omega
  have s_419 : (I_405 o 7).toInt ≤ (I_405 o 3).toInt := by omega
  have s_420 : 7 * (I0 o 7).toInt - (I0 o 8).toInt + (I0 o 4).toInt ≤ 7 * (I_405 o 7).toInt - (I_405 o 8).toInt + (I_405 o 4).toInt := by omega
  clear s_364 s_365 s_366 s_367 t_368 g_369 g_370 g_371 g_372 g_373 t_374 g_375 t_381 t_382 t_383 t_384 t_385 t_386 t_387 t_411 g_412 g_413 g_414 g_415 t_416 u_396 u_397 u_398 u_399 u_401
  have t_421 : (I_405 o 3).toInt = (I0 o 3).toInt := by rw [hZ I_405 3 rfl hR_407]
  have g_422 : (0 : Int) ≤ (I_405 o 3).toInt ∧ (I_405 o 3).toInt ≤ 1600 := hR_407.at0 ra 3 (by decide)
  have g_423 : (0 : Int) ≤ (I_405 o 4).toInt ∧ (I_405 o 4).toInt ≤ 5 := hR_407.at0 ra 4 (by decide)
  have g_424 : (0 : Int) ≤ (I_405 o 6).toInt ∧ (I_405 o 6).toInt ≤ 1600 := hR_407.at0 ra 6 (by decide)
  have g_425 : (0 : Int) ≤ (I_405 o 7).toInt ∧ (I_405 o 7).toInt ≤ 1601 := hR_407.at0 ra 7 (by decide)
  have g_426 : (0 : Int) ≤ (I_405 o 8).toInt ∧ (I_405 o 8).toInt ≤ 6 := hR_407.at0 ra 8 (by decide)
  have t_427 : (I_405 o 35).toInt = (I0 o 35).toInt := by rw [hZ I_405 35 rfl hR_407]
  have g_428 : (0 : Int) ≤ (I_405 o 35).toInt ∧ (I_405 o 35).toInt ≤ 1 := hR_407.at0 ra 35 (by decide)
  have w_429 : I_405 (o + 8) = I0 (o + 8) := (fr_408 (o + 8) (by first | omega | (dsimp only; omega))).trans w_390
  have l_430 : (0 : Int32).toInt = 0 := rfl
  exact yModel_readPan_50 (I0 := I0) (L0 := L0) hok hw ra hz14 hz15 hz16 hz17 hz18 hz19 hZ hR0 hq0 hq1 hq2 hq3 hp  _ hR_407 hf_410 (by first | omega | (intro h; omega) | exact Or.inl rfl | exact Or.inr rfl) (by first | omega | (intro h; omega) | exact Or.inl rfl | exact Or.inr rfl) (by first | omega | (intro h; omega) | exact Or.inl rfl | exact Or.inr rfl) (by first | omega | (intro h; omega) | exact Or.inl rfl | exact Or.inr rfl) (by first | omega | (intro h; omega) | exact Or.inl rfl | exact Or.inr rfl) (by first | omega | (intro h; omega) | exact Or.inl rfl | exact Or.inr rfl) u_403 u_404 w_429 (Nat.lt_succ_self _)
theorem y_Model_readPan {D : va_G} {cA : FieldType → ClassId} {b : Nat} {E : State → Prop} {R : qRg} {o n : Nat} {sh : Nat → qC} {Rf : Nat → Nat → Option Nat} {I0 : Nat → Nat → Int32} {L0 : Nat → Nat → Int64} {post : Option Value → qS → Prop} (hok : q_ok (qGG D cA b E)) (hw : WfModel (qGG D cA b E) n sh Rf o) (ra : RAModel R o) (hz14 : R.2 14 = true) (hz15 : R.2 15 = true) (hz16 : R.2 16 = true) (hz17 : R.2 17 = true) (hz18 : R.2 18 = true) (hz19 : R.2 19 = true) (hq0 : (I0 o 7).toInt ≤ (I0 o 3).toInt) (hq1 : (I0 (o + 8) (I0 o 35 : Int32).toNatClampNeg).toInt ≤ 2) (hq2 : MPo I0 o) (hq3 : MTk I0 o) (hR : RI R I0) (hp : ∀ (I' : Nat → Nat → Int32) (L' : Nat → Nat → Int64), RI R I' → Fm (fun c => c = o ∨ c = o + 8 ∨ (o + 16 ≤ c ∧ c < o + 19)) I0 I' → Kp wModel_readPan I0 I' o → ((I' o 7).toInt ≤ (I' o 3).toInt) → ((I0 o 7).toInt ≤ (I' o 7).toInt) → ((I0 o 4).toInt ≤ (I' o 4).toInt) → (7 * (I0 o 7).toInt - (I0 o 8).toInt + (I0 o 4).toInt ≤ 7 * (I' o 7).toInt - (I' o 8).toInt + (I' o 4).toInt) → (MPo I' o) → (MTk I' o) → post none (n, sh, Rf, I', L')) : Ev (qGG D cA b E) mModel_readPan 5 (0, 0) 0 (lv_args 0 [.ref o]) [] (n, sh, Rf, I0, L0) post :=
  yc_Model_readPan (R := fzR R I0 o wModel_readPan) hok hw (fzA ra hR _) (fzT hz14 rfl) (fzT hz15 rfl) (fzT hz16 rfl) (fzT hz17 rfl) (fzT hz18 rfl) (fzT hz19 rfl) fzZ (fzI hR) hq0 hq1 hq2 hq3 (fzI hR) (fun I' L' h1 h2 u0 u1 u2 u3 u4 u5 => hp I' L' (fzB hR h1) h2 (fzP h1) u0 u1 u2 u3 u4 u5)
