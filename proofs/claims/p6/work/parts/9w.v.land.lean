/-! Safety of the reference, the lines of a LAND: by program (spec.py). -/
def wModel_land : Nat → Bool := fun j => Nat.beq j 12 || Nat.beq j 13 || Nat.beq j 14 || Nat.beq j 15 || Nat.beq j 16 || Nat.beq j 17 || Nat.beq j 18 || Nat.beq j 19 || Nat.beq j 21 || Nat.beq j 44 || Nat.beq j 45 || Nat.beq j 77 || Nat.beq j 145 || false
set_option maxHeartbeats 4000000 in
set_option maxRecDepth 20000 in
theorem yModel_land_59 {D : va_G} {cA : FieldType → ClassId} {b : Nat} {E : State → Prop} {R : qRg} {o n : Nat} {sh : Nat → qC} {Rf : Nat → Nat → Option Nat} {I0 : Nat → Nat → Int32} {L0 : Nat → Nat → Int64} {post : Option Value → qS → Prop} (hok : q_ok (qGG D cA b E)) (hw : WfModel (qGG D cA b E) n sh Rf o) (ra : RAModel R o) (hz12 : R.2 12 = true) (hz13 : R.2 13 = true) (hz14 : R.2 14 = true) (hz15 : R.2 15 = true) (hz16 : R.2 16 = true) (hz17 : R.2 17 = true) (hz18 : R.2 18 = true) (hz19 : R.2 19 = true) (hz21 : R.2 21 = true) (hz44 : R.2 44 = true) (hz45 : R.2 45 = true) (hz77 : R.2 77 = true) (hz145 : R.2 145 = true) (hZ : Fz R I0 o wModel_land) (hR0 : RI R I0) (hq0 : MFac I0 o) (hp : ∀ (r : Int32) (I' : Nat → Nat → Int32) (L' : Nat → Nat → Int64), RI R I' → Fm (fun c => c = o ∨ c = o + 2 ∨ (o + 6 ≤ c ∧ c < o + 26)) I0 I' → ((I' o 2).toInt = 0) → (MFac I' o) → post (some (.int r)) (n, sh, Rf, I', L')) : ∀ (k : Nat)  {I : Nat → Nat → Int32} {L : Nat → Nat → Int64}, RI R I → Fm (fun c => c = o ∨ c = o + 2 ∨ (o + 6 ≤ c ∧ c < o + 26)) I0 I → ((I o 2).toInt = 0) → ((I o 7).toInt ≤ (I o 3).toInt) → (MFac I o) → (MPo I o) → (MTk I o) → (11300 - (7 * (I o 7).toInt - (I o 8).toInt + (I o 4).toInt)).toNat < k → Ev (qGG D cA b E) mModel_land 7 (0, 0) 59 [(0, .ref o)] [] (n, sh, Rf, I, L) post := by
  intro k
  induction k with
  | zero =>
    intro  I L hR hf hi0 hi1 hi2 hi3 hi4 hm
    exact absurd hm (Nat.not_lt_zero _)
  | succ k ih =>
    intro  I L hR hf hi0 hi1 hi2 hi3 hi4 hm
    have g_1 : (0 : Int) ≤ (I o 3).toInt ∧ (I o 3).toInt ≤ 1600 := hR.at0 ra 3 (by decide)
    have g_2 : (0 : Int) ≤ (I0 o 3).toInt ∧ (I0 o 3).toInt ≤ 1600 := hR0.at0 ra 3 (by decide)
    have g_3 : (0 : Int) ≤ (I o 4).toInt ∧ (I o 4).toInt ≤ 5 := hR.at0 ra 4 (by decide)
    have g_4 : (0 : Int) ≤ (I0 o 4).toInt ∧ (I0 o 4).toInt ≤ 5 := hR0.at0 ra 4 (by decide)
    have g_5 : (0 : Int) ≤ (I o 6).toInt ∧ (I o 6).toInt ≤ 1600 := hR.at0 ra 6 (by decide)
    have g_6 : (0 : Int) ≤ (I0 o 6).toInt ∧ (I0 o 6).toInt ≤ 1600 := hR0.at0 ra 6 (by decide)
    have g_7 : (0 : Int) ≤ (I o 7).toInt ∧ (I o 7).toInt ≤ 1601 := hR.at0 ra 7 (by decide)
    have g_8 : (0 : Int) ≤ (I0 o 7).toInt ∧ (I0 o 7).toInt ≤ 1601 := hR0.at0 ra 7 (by decide)
    have g_9 : (0 : Int) ≤ (I o 8).toInt ∧ (I o 8).toInt ≤ 6 := hR.at0 ra 8 (by decide)
    have g_10 : (0 : Int) ≤ (I0 o 8).toInt ∧ (I0 o 8).toInt ≤ 6 := hR0.at0 ra 8 (by decide)
    have g_11 : (0 : Int) ≤ (I o 2).toInt ∧ (I o 2).toInt ≤ 1600 := hR.at0 ra 2 (by decide)
    have g_12 : (0 : Int) ≤ (I0 o 2).toInt ∧ (I0 o 2).toInt ≤ 1600 := hR0.at0 ra 2 (by decide)
    have g_13 : (0 : Int) ≤ (I o 67).toInt ∧ (I o 67).toInt ≤ 40 := hR.at0 ra 67 (by decide)
    have g_14 : (0 : Int) ≤ (I0 o 67).toInt ∧ (I0 o 67).toInt ≤ 40 := hR0.at0 ra 67 (by decide)
    refine sModel_land_59 o n sh Rf I L post  hok hw ?_
    unfold fModel_land_59
    refine y_Model_isGood hok hw ra hR (fun r_15 u_16 u_17 u_18 => ⟨r_15, I, L, rfl, rfl, ?_⟩)
    have b_19 : 0 ≤ r_15.toInt ∧ r_15.toInt ≤ 1 := u_16.rg
    have l_20 : (0 : Int32).toInt = 0 := rfl
    refine ⟨fun c_21 => ?_, fun c_21 => ?_⟩
    · have d_22 := iEq c_21
      have i_23 := u_18 (by omega)
      refine y_Model_isGood hok hw ra hR (fun r_24 u_25 u_26 u_27 => ⟨r_24, I, L, rfl, rfl, ?_⟩)
      have b_28 : 0 ≤ r_24.toInt ∧ r_24.toInt ≤ 1 := u_25.rg
      refine ⟨fun c_29 => ?_, fun c_29 => ?_⟩
      · have d_30 := iNe c_29
        have i_31 := u_26 (by omega)
        have g_32 : (0 : Int) ≤ (I o 35).toInt ∧ (I o 35).toInt ≤ 1 := hR.at0 ra 35 (by decide)
        refine fun I_33 e_34 => ?_
        have hR_35 : RI R I_33 := hR.up0 (k := 34) ra (by decide) (Or.inr hz44) e_34 (show (0 : Int) ≤ (I o 35).toInt by omega) (show (I o 35).toInt ≤ (1 : Int) by omega)
        have hf_36 : Fm (fun c => c = o ∨ c = o + 2 ∨ (o + 6 ≤ c ∧ c < o + 26)) I0 I_33 := hf.set (by first | rfl | omega | (dsimp only; omega)) e_34
        have t_37 : (I_33 o 3).toInt = (I o 3).toInt := by rw [← e_34, q_u_k (by decide)]
        have t_38 : (I_33 o 4).toInt = (I o 4).toInt := by rw [← e_34, q_u_k (by decide)]
        have t_39 : (I_33 o 6).toInt = (I o 6).toInt := by rw [← e_34, q_u_k (by decide)]
        have t_40 : (I_33 o 7).toInt = (I o 7).toInt := by rw [← e_34, q_u_k (by decide)]
        have t_41 : (I_33 o 8).toInt = (I o 8).toInt := by rw [← e_34, q_u_k (by decide)]
        have t_42 : (I_33 o 9).toInt = (I o 9).toInt := by rw [← e_34, q_u_k (by decide)]
        have t_43 : (I_33 o 2).toInt = (I o 2).toInt := by rw [← e_34, q_u_k (by decide)]
        have t_44 : (I_33 o 67).toInt = (I o 67).toInt := by rw [← e_34, q_u_k (by decide)]
        have t_45 : (I_33 o 35).toInt = (I o 35).toInt := by rw [← e_34, q_u_k (by decide)]
        have t_46 : (I_33 o 34).toInt = (I o 35).toInt := by rw [← e_34, q_u_at]
        have k_47 : MFac I_33 o := hi2.fr (by rw [← e_34]; exact q_u_ne (by omega)) (by rw [← e_34]; exact q_u_ne (by omega)) (by rw [← e_34, q_u_k (by decide)])
        have k_48 : MPo I_33 o := hi3.fr (by rw [← e_34, q_u_k (by decide)]) (by rw [← e_34, q_u_k (by decide)])
        have k_49 : MTk I_33 o := hi4.fr (by rw [← e_34, q_u_k (by decide)]) (by rw [← e_34, q_u_k (by decide)]) (by rw [← e_34, q_u_k (by decide)])
        refine fun I_50 e_51 => ?_
        have hR_52 : RI R I_50 := hR_35.up0 (k := 67) ra (by decide) (Or.inr hz77) e_51 (show (0 : Int) ≤ (0 : Int32).toInt by omega) (show (0 : Int32).toInt ≤ (40 : Int) by omega)
        have hf_53 : Fm (fun c => c = o ∨ c = o + 2 ∨ (o + 6 ≤ c ∧ c < o + 26)) I0 I_50 := hf_36.set (by first | rfl | omega | (dsimp only; omega)) e_51
        have t_54 : (I_50 o 3).toInt = (I_33 o 3).toInt := by rw [← e_51, q_u_k (by decide)]
        have t_55 : (I_50 o 4).toInt = (I_33 o 4).toInt := by rw [← e_51, q_u_k (by decide)]
        have t_56 : (I_50 o 6).toInt = (I_33 o 6).toInt := by rw [← e_51, q_u_k (by decide)]
        have t_57 : (I_50 o 7).toInt = (I_33 o 7).toInt := by rw [← e_51, q_u_k (by decide)]
        have t_58 : (I_50 o 8).toInt = (I_33 o 8).toInt := by rw [← e_51, q_u_k (by decide)]
        have t_59 : (I_50 o 9).toInt = (I_33 o 9).toInt := by rw [← e_51, q_u_k (by decide)]
        have t_60 : (I_50 o 2).toInt = (I_33 o 2).toInt := by rw [← e_51, q_u_k (by decide)]
        have t_61 : (I_50 o 67).toInt = (0 : Int32).toInt := by rw [← e_51, q_u_at]
        have t_62 : (I_50 o 35).toInt = (I_33 o 35).toInt := by rw [← e_51, q_u_k (by decide)]
        have t_63 : (I_50 o 34).toInt = (I_33 o 34).toInt := by rw [← e_51, q_u_k (by decide)]
        have k_65 : MPo I_50 o := k_48.fr (by rw [← e_51, q_u_k (by decide)]) (by rw [← e_51, q_u_k (by decide)])
        have k_66 : MTk I_50 o := k_49.fr (by rw [← e_51, q_u_k (by decide)]) (by rw [← e_51, q_u_k (by decide)]) (by rw [← e_51, q_u_k (by decide)])
        have k_67 : MFac I_50 o := by intro j hj; exfalso; omega
        refine fun I_68 e_69 => ?_
        have hR_70 : RI R I_68 := hR_52.up0 (k := 135) ra (by decide) (Or.inr hz145) e_69 (i_lo _) (i_hi _)
        have hf_71 : Fm (fun c => c = o ∨ c = o + 2 ∨ (o + 6 ≤ c ∧ c < o + 26)) I0 I_68 := hf_53.set (by first | rfl | omega | (dsimp only; omega)) e_69
        have t_72 : (I_68 o 3).toInt = (I_50 o 3).toInt := by rw [← e_69, q_u_k (by decide)]
        have t_73 : (I_68 o 4).toInt = (I_50 o 4).toInt := by rw [← e_69, q_u_k (by decide)]
        have t_74 : (I_68 o 6).toInt = (I_50 o 6).toInt := by rw [← e_69, q_u_k (by decide)]
        have t_75 : (I_68 o 7).toInt = (I_50 o 7).toInt := by rw [← e_69, q_u_k (by decide)]
        have t_76 : (I_68 o 8).toInt = (I_50 o 8).toInt := by rw [← e_69, q_u_k (by decide)]
        have t_77 : (I_68 o 9).toInt = (I_50 o 9).toInt := by rw [← e_69, q_u_k (by decide)]
        have t_78 : (I_68 o 2).toInt = (I_50 o 2).toInt := by rw [← e_69, q_u_k (by decide)]
        have t_79 : (I_68 o 67).toInt = (I_50 o 67).toInt := by rw [← e_69, q_u_k (by decide)]
        have t_80 : (I_68 o 35).toInt = (I_50 o 35).toInt := by rw [← e_69, q_u_k (by decide)]
        have t_81 : (I_68 o 34).toInt = (I_50 o 34).toInt := by rw [← e_69, q_u_k (by decide)]
        have k_82 : MPo I_68 o := k_65.fr (by rw [← e_69, q_u_k (by decide)]) (by rw [← e_69, q_u_k (by decide)])
        have k_83 : MTk I_68 o := k_66.fr (by rw [← e_69, q_u_k (by decide)]) (by rw [← e_69, q_u_k (by decide)]) (by rw [← e_69, q_u_k (by decide)])
        have k_84 : MFac I_68 o := k_67.fr (by rw [← e_69]; exact q_u_ne (by omega)) (by rw [← e_69]; exact q_u_ne (by omega)) (by rw [← e_69, q_u_k (by decide)])
        refine y_Model_measure hok hw ra hR_70 (fun I_86 L_87 hR_88 fr_89 kp_90  => ⟨I_86, L_87, rfl, rfl, ?_⟩)
        have hf_91 : Fm (fun c => c = o ∨ c = o + 2 ∨ (o + 6 ≤ c ∧ c < o + 26)) I0 I_86 := hf_71.call fr_89 (fun c hc => by first | exact hc | (dsimp only at hc ⊢; omega) | omega)
        have t_92 : (I_86 o 3).toInt = (I_68 o 3).toInt := by rw [kp_90 3 rfl]
        have t_93 : (I_86 o 4).toInt = (I_68 o 4).toInt := by rw [kp_90 4 rfl]
        have t_94 : (I_86 o 6).toInt = (I_68 o 6).toInt := by rw [kp_90 6 rfl]
        have t_95 : (I_86 o 7).toInt = (I_68 o 7).toInt := by rw [kp_90 7 rfl]
        have t_96 : (I_86 o 8).toInt = (I_68 o 8).toInt := by rw [kp_90 8 rfl]
        have t_97 : (I_86 o 9).toInt = (I_68 o 9).toInt := by rw [kp_90 9 rfl]
        have t_98 : (I_86 o 2).toInt = (I_68 o 2).toInt := by rw [kp_90 2 rfl]
        have t_99 : (I_86 o 67).toInt = (I_68 o 67).toInt := by rw [kp_90 67 rfl]
        have t_100 : (I_86 o 35).toInt = (I_68 o 35).toInt := by rw [kp_90 35 rfl]
        have t_101 : (I_86 o 34).toInt = (I_68 o 34).toInt := by rw [kp_90 34 rfl]
        have k_102 : MPo I_86 o := k_82.fr (kp_90 8 rfl) (kp_90 9 rfl)
        have k_103 : MTk I_86 o := k_83.fr (kp_90 6 rfl) (kp_90 7 rfl) (kp_90 8 rfl)
        have k_104 : MFac I_86 o := k_84.fr (fr_89 _ (by first | omega | (dsimp only; omega))) (fr_89 _ (by first | omega | (dsimp only; omega))) (kp_90 67 rfl)
        have g_105 : (0 : Int) ≤ (I_86 o 34).toInt ∧ (I_86 o 34).toInt ≤ 1 := hR_88.at0 ra 34 (by decide)
        refine ⟨tIn (by omega) (by omega), ?_⟩
        have g_106 : (0 : Int) ≤ (I_86 (o + 6) ((I_86 o 34) : Int32).toNatClampNeg).toInt ∧ (I_86 (o + 6) ((I_86 o 34) : Int32).toNatClampNeg).toInt ≤ 24 := hR_88.at ra 6 _ (by decide)
        have g_107 : (0 : Int) ≤ (I_86 o 34).toInt ∧ (I_86 o 34).toInt ≤ 1 := hR_88.at0 ra 34 (by decide)
        refine ⟨tIn (by omega) (by omega), ?_⟩
        have g_108 : (0 : Int) ≤ (I_86 (o + 7) ((I_86 o 34) : Int32).toNatClampNeg).toInt ∧ (I_86 (o + 7) ((I_86 o 34) : Int32).toNatClampNeg).toInt ≤ 3 := hR_88.at ra 7 _ (by decide)
        have a_109 : ((I_86 (o + 6) ((I_86 o 34) : Int32).toNatClampNeg) + (I_86 (o + 7) ((I_86 o 34) : Int32).toNatClampNeg)).toInt = (I_86 (o + 6) ((I_86 o 34) : Int32).toNatClampNeg).toInt + (I_86 (o + 7) ((I_86 o 34) : Int32).toNatClampNeg).toInt := tAdd (by omega) (by omega)
        have g_110 : (0 : Int) ≤ (I_86 o 34).toInt ∧ (I_86 o 34).toInt ≤ 1 := hR_88.at0 ra 34 (by decide)
        refine ⟨tIn (by omega) (by omega), ?_⟩
        have g_111 : (0 : Int) ≤ (I_86 (o + 8) ((I_86 o 34) : Int32).toNatClampNeg).toInt ∧ (I_86 (o + 8) ((I_86 o 34) : Int32).toNatClampNeg).toInt ≤ 3 := hR_88.at ra 8 _ (by decide)
        have a_112 : (((I_86 (o + 6) ((I_86 o 34) : Int32).toNatClampNeg) + (I_86 (o + 7) ((I_86 o 34) : Int32).toNatClampNeg)) + (I_86 (o + 8) ((I_86 o 34) : Int32).toNatClampNeg)).toInt = ((I_86 (o + 6) ((I_86 o 34) : Int32).toNatClampNeg) + (I_86 (o + 7) ((I_86 o 34) : Int32).toNatClampNeg)).toInt + (I_86 (o + 8) ((I_86 o 34) : Int32).toNatClampNeg).toInt := tAdd (by omega) (by omega)
        have g_113 : (0 : Int) ≤ (I_86 o 34).toInt ∧ (I_86 o 34).toInt ≤ 1 := hR_88.at0 ra 34 (by decide)
        refine ⟨tIn (by omega) (by omega), ?_⟩
        have g_114 : (0 : Int) ≤ (I_86 (o + 9) ((I_86 o 34) : Int32).toNatClampNeg).toInt ∧ (I_86 (o + 9) ((I_86 o 34) : Int32).toNatClampNeg).toInt ≤ 5 := hR_88.at ra 9 _ (by decide)
        have a_115 : ((((I_86 (o + 6) ((I_86 o 34) : Int32).toNatClampNeg) + (I_86 (o + 7) ((I_86 o 34) : Int32).toNatClampNeg)) + (I_86 (o + 8) ((I_86 o 34) : Int32).toNatClampNeg)) + (I_86 (o + 9) ((I_86 o 34) : Int32).toNatClampNeg)).toInt = (((I_86 (o + 6) ((I_86 o 34) : Int32).toNatClampNeg) + (I_86 (o + 7) ((I_86 o 34) : Int32).toNatClampNeg)) + (I_86 (o + 8) ((I_86 o 34) : Int32).toNatClampNeg)).toInt + (I_86 (o + 9) ((I_86 o 34) : Int32).toNatClampNeg).toInt := tAdd (by omega) (by omega)
        exact (hp _ _ _ hR_88 hf_91 (by first | omega | (intro h; omega) | exact Or.inl rfl | exact Or.inr rfl) k_104)
      · have d_116 := iEq c_29
        have i_117 := u_27 (by omega)
        have l_118 : (-1 : Int32).toInt = -1 := rfl
        exact (hp _ _ _ hR hf (by first | omega | (intro h; omega) | exact Or.inl rfl | exact Or.inr rfl) hi2)
    · have d_119 := iNe c_21
      have i_120 := u_17 (by omega)
      have gd := u_17 (by omega)
      have g_121 : (0 : Int) ≤ (I o 8).toInt ∧ (I o 8).toInt ≤ 6 := hR.at0 ra 8 (by decide)
      refine ⟨fun c_122 => ?_, fun c_122 => ?_⟩
      · have d_123 := iEq c_122
        refine y_Model_isGood hok hw ra hR (fun r_124 u_125 u_126 u_127 => ⟨r_124, I, L, rfl, rfl, ?_⟩)
        have b_128 : 0 ≤ r_124.toInt ∧ r_124.toInt ≤ 1 := u_125.rg
        refine ⟨fun c_129 => ?_, fun c_129 => ?_⟩
        · have d_130 := iNe c_129
          have i_131 := u_126 (by omega)
          have g_132 : (0 : Int) ≤ (I o 35).toInt ∧ (I o 35).toInt ≤ 1 := hR.at0 ra 35 (by decide)
          refine fun I_133 e_134 => ?_
          have hR_135 : RI R I_133 := hR.up0 (k := 34) ra (by decide) (Or.inr hz44) e_134 (show (0 : Int) ≤ (I o 35).toInt by omega) (show (I o 35).toInt ≤ (1 : Int) by omega)
          have hf_136 : Fm (fun c => c = o ∨ c = o + 2 ∨ (o + 6 ≤ c ∧ c < o + 26)) I0 I_133 := hf.set (by first | rfl | omega | (dsimp only; omega)) e_134
          have t_137 : (I_133 o 3).toInt = (I o 3).toInt := by rw [← e_134, q_u_k (by decide)]
          have t_138 : (I_133 o 4).toInt = (I o 4).toInt := by rw [← e_134, q_u_k (by decide)]
          have t_139 : (I_133 o 6).toInt = (I o 6).toInt := by rw [← e_134, q_u_k (by decide)]
          have t_140 : (I_133 o 7).toInt = (I o 7).toInt := by rw [← e_134, q_u_k (by decide)]
          have t_141 : (I_133 o 8).toInt = (I o 8).toInt := by rw [← e_134, q_u_k (by decide)]
          have t_142 : (I_133 o 9).toInt = (I o 9).toInt := by rw [← e_134, q_u_k (by decide)]
          have t_143 : (I_133 o 2).toInt = (I o 2).toInt := by rw [← e_134, q_u_k (by decide)]
          have t_144 : (I_133 o 67).toInt = (I o 67).toInt := by rw [← e_134, q_u_k (by decide)]
          have t_145 : (I_133 o 35).toInt = (I o 35).toInt := by rw [← e_134, q_u_k (by decide)]
          have t_146 : (I_133 o 34).toInt = (I o 35).toInt := by rw [← e_134, q_u_at]
          have k_147 : MFac I_133 o := hi2.fr (by rw [← e_134]; exact q_u_ne (by omega)) (by rw [← e_134]; exact q_u_ne (by omega)) (by rw [← e_134, q_u_k (by decide)])
          have k_148 : MPo I_133 o := hi3.fr (by rw [← e_134, q_u_k (by decide)]) (by rw [← e_134, q_u_k (by decide)])
          have k_149 : MTk I_133 o := hi4.fr (by rw [← e_134, q_u_k (by decide)]) (by rw [← e_134, q_u_k (by decide)]) (by rw [← e_134, q_u_k (by decide)])
          refine fun I_150 e_151 => ?_
          have hR_152 : RI R I_150 := hR_135.up0 (k := 67) ra (by decide) (Or.inr hz77) e_151 (show (0 : Int) ≤ (0 : Int32).toInt by omega) (show (0 : Int32).toInt ≤ (40 : Int) by omega)
          have hf_153 : Fm (fun c => c = o ∨ c = o + 2 ∨ (o + 6 ≤ c ∧ c < o + 26)) I0 I_150 := hf_136.set (by first | rfl | omega | (dsimp only; omega)) e_151
          have t_154 : (I_150 o 3).toInt = (I_133 o 3).toInt := by rw [← e_151, q_u_k (by decide)]
          have t_155 : (I_150 o 4).toInt = (I_133 o 4).toInt := by rw [← e_151, q_u_k (by decide)]
          have t_156 : (I_150 o 6).toInt = (I_133 o 6).toInt := by rw [← e_151, q_u_k (by decide)]
          have t_157 : (I_150 o 7).toInt = (I_133 o 7).toInt := by rw [← e_151, q_u_k (by decide)]
          have t_158 : (I_150 o 8).toInt = (I_133 o 8).toInt := by rw [← e_151, q_u_k (by decide)]
          have t_159 : (I_150 o 9).toInt = (I_133 o 9).toInt := by rw [← e_151, q_u_k (by decide)]
          have t_160 : (I_150 o 2).toInt = (I_133 o 2).toInt := by rw [← e_151, q_u_k (by decide)]
          have t_161 : (I_150 o 67).toInt = (0 : Int32).toInt := by rw [← e_151, q_u_at]
          have t_162 : (I_150 o 35).toInt = (I_133 o 35).toInt := by rw [← e_151, q_u_k (by decide)]
          have t_163 : (I_150 o 34).toInt = (I_133 o 34).toInt := by rw [← e_151, q_u_k (by decide)]
          have k_165 : MPo I_150 o := k_148.fr (by rw [← e_151, q_u_k (by decide)]) (by rw [← e_151, q_u_k (by decide)])
          have k_166 : MTk I_150 o := k_149.fr (by rw [← e_151, q_u_k (by decide)]) (by rw [← e_151, q_u_k (by decide)]) (by rw [← e_151, q_u_k (by decide)])
          have k_167 : MFac I_150 o := by intro j hj; exfalso; omega
          refine fun I_168 e_169 => ?_
          have hR_170 : RI R I_168 := hR_152.up0 (k := 135) ra (by decide) (Or.inr hz145) e_169 (i_lo _) (i_hi _)
          have hf_171 : Fm (fun c => c = o ∨ c = o + 2 ∨ (o + 6 ≤ c ∧ c < o + 26)) I0 I_168 := hf_153.set (by first | rfl | omega | (dsimp only; omega)) e_169
          have t_172 : (I_168 o 3).toInt = (I_150 o 3).toInt := by rw [← e_169, q_u_k (by decide)]
          have t_173 : (I_168 o 4).toInt = (I_150 o 4).toInt := by rw [← e_169, q_u_k (by decide)]
          have t_174 : (I_168 o 6).toInt = (I_150 o 6).toInt := by rw [← e_169, q_u_k (by decide)]
          have t_175 : (I_168 o 7).toInt = (I_150 o 7).toInt := by rw [← e_169, q_u_k (by decide)]
          have t_176 : (I_168 o 8).toInt = (I_150 o 8).toInt := by rw [← e_169, q_u_k (by decide)]
          have t_177 : (I_168 o 9).toInt = (I_150 o 9).toInt := by rw [← e_169, q_u_k (by decide)]
          have t_178 : (I_168 o 2).toInt = (I_150 o 2).toInt := by rw [← e_169, q_u_k (by decide)]
          have t_179 : (I_168 o 67).toInt = (I_150 o 67).toInt := by rw [← e_169, q_u_k (by decide)]
          have t_180 : (I_168 o 35).toInt = (I_150 o 35).toInt := by rw [← e_169, q_u_k (by decide)]
          have t_181 : (I_168 o 34).toInt = (I_150 o 34).toInt := by rw [← e_169, q_u_k (by decide)]
          have k_182 : MPo I_168 o := k_165.fr (by rw [← e_169, q_u_k (by decide)]) (by rw [← e_169, q_u_k (by decide)])
          have k_183 : MTk I_168 o := k_166.fr (by rw [← e_169, q_u_k (by decide)]) (by rw [← e_169, q_u_k (by decide)]) (by rw [← e_169, q_u_k (by decide)])
          have k_184 : MFac I_168 o := k_167.fr (by rw [← e_169]; exact q_u_ne (by omega)) (by rw [← e_169]; exact q_u_ne (by omega)) (by rw [← e_169, q_u_k (by decide)])
          refine y_Model_measure hok hw ra hR_170 (fun I_186 L_187 hR_188 fr_189 kp_190  => ⟨I_186, L_187, rfl, rfl, ?_⟩)
          have hf_191 : Fm (fun c => c = o ∨ c = o + 2 ∨ (o + 6 ≤ c ∧ c < o + 26)) I0 I_186 := hf_171.call fr_189 (fun c hc => by first | exact hc | (dsimp only at hc ⊢; omega) | omega)
          have t_192 : (I_186 o 3).toInt = (I_168 o 3).toInt := by rw [kp_190 3 rfl]
          have t_193 : (I_186 o 4).toInt = (I_168 o 4).toInt := by rw [kp_190 4 rfl]
          have t_194 : (I_186 o 6).toInt = (I_168 o 6).toInt := by rw [kp_190 6 rfl]
          have t_195 : (I_186 o 7).toInt = (I_168 o 7).toInt := by rw [kp_190 7 rfl]
          have t_196 : (I_186 o 8).toInt = (I_168 o 8).toInt := by rw [kp_190 8 rfl]
          have t_197 : (I_186 o 9).toInt = (I_168 o 9).toInt := by rw [kp_190 9 rfl]
          have t_198 : (I_186 o 2).toInt = (I_168 o 2).toInt := by rw [kp_190 2 rfl]
          have t_199 : (I_186 o 67).toInt = (I_168 o 67).toInt := by rw [kp_190 67 rfl]
          have t_200 : (I_186 o 35).toInt = (I_168 o 35).toInt := by rw [kp_190 35 rfl]
          have t_201 : (I_186 o 34).toInt = (I_168 o 34).toInt := by rw [kp_190 34 rfl]
          have k_202 : MPo I_186 o := k_182.fr (kp_190 8 rfl) (kp_190 9 rfl)
          have k_203 : MTk I_186 o := k_183.fr (kp_190 6 rfl) (kp_190 7 rfl) (kp_190 8 rfl)
          have k_204 : MFac I_186 o := k_184.fr (fr_189 _ (by first | omega | (dsimp only; omega))) (fr_189 _ (by first | omega | (dsimp only; omega))) (kp_190 67 rfl)
          have g_205 : (0 : Int) ≤ (I_186 o 34).toInt ∧ (I_186 o 34).toInt ≤ 1 := hR_188.at0 ra 34 (by decide)
          refine ⟨tIn (by omega) (by omega), ?_⟩
          have g_206 : (0 : Int) ≤ (I_186 (o + 6) ((I_186 o 34) : Int32).toNatClampNeg).toInt ∧ (I_186 (o + 6) ((I_186 o 34) : Int32).toNatClampNeg).toInt ≤ 24 := hR_188.at ra 6 _ (by decide)
          have g_207 : (0 : Int) ≤ (I_186 o 34).toInt ∧ (I_186 o 34).toInt ≤ 1 := hR_188.at0 ra 34 (by decide)
          refine ⟨tIn (by omega) (by omega), ?_⟩
          have g_208 : (0 : Int) ≤ (I_186 (o + 7) ((I_186 o 34) : Int32).toNatClampNeg).toInt ∧ (I_186 (o + 7) ((I_186 o 34) : Int32).toNatClampNeg).toInt ≤ 3 := hR_188.at ra 7 _ (by decide)
          have a_209 : ((I_186 (o + 6) ((I_186 o 34) : Int32).toNatClampNeg) + (I_186 (o + 7) ((I_186 o 34) : Int32).toNatClampNeg)).toInt = (I_186 (o + 6) ((I_186 o 34) : Int32).toNatClampNeg).toInt + (I_186 (o + 7) ((I_186 o 34) : Int32).toNatClampNeg).toInt := tAdd (by omega) (by omega)
          have g_210 : (0 : Int) ≤ (I_186 o 34).toInt ∧ (I_186 o 34).toInt ≤ 1 := hR_188.at0 ra 34 (by decide)
          refine ⟨tIn (by omega) (by omega), ?_⟩
          have g_211 : (0 : Int) ≤ (I_186 (o + 8) ((I_186 o 34) : Int32).toNatClampNeg).toInt ∧ (I_186 (o + 8) ((I_186 o 34) : Int32).toNatClampNeg).toInt ≤ 3 := hR_188.at ra 8 _ (by decide)
          have a_212 : (((I_186 (o + 6) ((I_186 o 34) : Int32).toNatClampNeg) + (I_186 (o + 7) ((I_186 o 34) : Int32).toNatClampNeg)) + (I_186 (o + 8) ((I_186 o 34) : Int32).toNatClampNeg)).toInt = ((I_186 (o + 6) ((I_186 o 34) : Int32).toNatClampNeg) + (I_186 (o + 7) ((I_186 o 34) : Int32).toNatClampNeg)).toInt + (I_186 (o + 8) ((I_186 o 34) : Int32).toNatClampNeg).toInt := tAdd (by omega) (by omega)
          have g_213 : (0 : Int) ≤ (I_186 o 34).toInt ∧ (I_186 o 34).toInt ≤ 1 := hR_188.at0 ra 34 (by decide)
          refine ⟨tIn (by omega) (by omega), ?_⟩
          have g_214 : (0 : Int) ≤ (I_186 (o + 9) ((I_186 o 34) : Int32).toNatClampNeg).toInt ∧ (I_186 (o + 9) ((I_186 o 34) : Int32).toNatClampNeg).toInt ≤ 5 := hR_188.at ra 9 _ (by decide)
          have a_215 : ((((I_186 (o + 6) ((I_186 o 34) : Int32).toNatClampNeg) + (I_186 (o + 7) ((I_186 o 34) : Int32).toNatClampNeg)) + (I_186 (o + 8) ((I_186 o 34) : Int32).toNatClampNeg)) + (I_186 (o + 9) ((I_186 o 34) : Int32).toNatClampNeg)).toInt = (((I_186 (o + 6) ((I_186 o 34) : Int32).toNatClampNeg) + (I_186 (o + 7) ((I_186 o 34) : Int32).toNatClampNeg)) + (I_186 (o + 8) ((I_186 o 34) : Int32).toNatClampNeg)).toInt + (I_186 (o + 9) ((I_186 o 34) : Int32).toNatClampNeg).toInt := tAdd (by omega) (by omega)
          exact (hp _ _ _ hR_188 hf_191 (by first | omega | (intro h; omega) | exact Or.inl rfl | exact Or.inr rfl) k_204)
        · have d_216 := iEq c_129
          have i_217 := u_127 (by omega)
          have l_218 : (-1 : Int32).toInt = -1 := rfl
          exact (hp _ _ _ hR hf (by first | omega | (intro h; omega) | exact Or.inl rfl | exact Or.inr rfl) hi2)
      · have d_219 := iNe c_122
        refine y_Model_readLine hok hw ra hz14 hz15 hz16 hz17 hz18 hz19 (by first | omega | (intro h; omega) | exact Or.inl rfl | exact Or.inr rfl) (by first | omega | (intro h; omega) | exact Or.inl rfl | exact Or.inr rfl) (by first | omega | (intro h; omega) | exact Or.inl rfl | exact Or.inr rfl) hi3 hi4 hR (fun I_228 L_229 hR_230 fr_231 kp_232 u_221 u_222 u_223 u_224 u_225 u_226 u_227 => ⟨I_228, L_229, rfl, rfl, ?_⟩)
        have hf_233 : Fm (fun c => c = o ∨ c = o + 2 ∨ (o + 6 ≤ c ∧ c < o + 26)) I0 I_228 := hf.call fr_231 (fun c hc => by first | exact hc | (dsimp only at hc ⊢; omega) | omega)
        have t_234 : (I_228 o 3).toInt = (I o 3).toInt := by rw [kp_232 3 rfl]
        have g_235 : (0 : Int) ≤ (I_228 o 4).toInt ∧ (I_228 o 4).toInt ≤ 5 := hR_230.at0 ra 4 (by decide)
        have g_236 : (0 : Int) ≤ (I_228 o 6).toInt ∧ (I_228 o 6).toInt ≤ 1600 := hR_230.at0 ra 6 (by decide)
        have g_237 : (0 : Int) ≤ (I_228 o 7).toInt ∧ (I_228 o 7).toInt ≤ 1601 := hR_230.at0 ra 7 (by decide)
        have g_238 : (0 : Int) ≤ (I_228 o 8).toInt ∧ (I_228 o 8).toInt ≤ 6 := hR_230.at0 ra 8 (by decide)
        have t_239 : (I_228 o 2).toInt = (I o 2).toInt := by rw [kp_232 2 rfl]
        have t_240 : (I_228 o 67).toInt = (I o 67).toInt := by rw [kp_232 67 rfl]
        have k_241 : MFac I_228 o := hi2.fr (fr_231 _ (by first | omega | (dsimp only; omega))) (fr_231 _ (by first | omega | (dsimp only; omega))) (kp_232 67 rfl)
        exact ih hR_230 hf_233 (by first | omega | (intro h; omega) | exact Or.inl rfl | exact Or.inr rfl) (by first | omega | (intro h; omega) | exact Or.inl rfl | exact Or.inr rfl) k_241 u_226 u_227 (by omega)
set_option maxHeartbeats 4000000 in
set_option maxRecDepth 20000 in
theorem yc_Model_land {D : va_G} {cA : FieldType → ClassId} {b : Nat} {E : State → Prop} {R : qRg} {o n : Nat} {sh : Nat → qC} {Rf : Nat → Nat → Option Nat} {I0 : Nat → Nat → Int32} {L0 : Nat → Nat → Int64} {post : Option Value → qS → Prop} (hok : q_ok (qGG D cA b E)) (hw : WfModel (qGG D cA b E) n sh Rf o) (ra : RAModel R o) (hz12 : R.2 12 = true) (hz13 : R.2 13 = true) (hz14 : R.2 14 = true) (hz15 : R.2 15 = true) (hz16 : R.2 16 = true) (hz17 : R.2 17 = true) (hz18 : R.2 18 = true) (hz19 : R.2 19 = true) (hz21 : R.2 21 = true) (hz44 : R.2 44 = true) (hz45 : R.2 45 = true) (hz77 : R.2 77 = true) (hz145 : R.2 145 = true) (hZ : Fz R I0 o wModel_land) (hR0 : RI R I0) (hq0 : MFac I0 o) (hR : RI R I0) (hp : ∀ (r : Int32) (I' : Nat → Nat → Int32) (L' : Nat → Nat → Int64), RI R I' → Fm (fun c => c = o ∨ c = o + 2 ∨ (o + 6 ≤ c ∧ c < o + 26)) I0 I' → ((I' o 2).toInt = 0) → (MFac I' o) → post (some (.int r)) (n, sh, Rf, I', L')) : Ev (qGG D cA b E) mModel_land 7 (0, 0) 0 (lv_args 0 [.ref o]) [] (n, sh, Rf, I0, L0) post := by
  have hf : Fm (fun c => c = o ∨ c = o + 2 ∨ (o + 6 ≤ c ∧ c < o + 26)) I0 I0 := Fm.rf
  have g_242 : (0 : Int) ≤ (I0 o 3).toInt ∧ (I0 o 3).toInt ≤ 1600 := hR.at0 ra 3 (by decide)
  have g_243 : (0 : Int) ≤ (I0 o 4).toInt ∧ (I0 o 4).toInt ≤ 5 := hR.at0 ra 4 (by decide)
  have g_244 : (0 : Int) ≤ (I0 o 6).toInt ∧ (I0 o 6).toInt ≤ 1600 := hR.at0 ra 6 (by decide)
  have g_245 : (0 : Int) ≤ (I0 o 7).toInt ∧ (I0 o 7).toInt ≤ 1601 := hR.at0 ra 7 (by decide)
  have g_246 : (0 : Int) ≤ (I0 o 8).toInt ∧ (I0 o 8).toInt ≤ 6 := hR.at0 ra 8 (by decide)
  have g_247 : (0 : Int) ≤ (I0 o 2).toInt ∧ (I0 o 2).toInt ≤ 1600 := hR.at0 ra 2 (by decide)
  have g_248 : (0 : Int) ≤ (I0 o 67).toInt ∧ (I0 o 67).toInt ≤ 40 := hR.at0 ra 67 (by decide)
  refine sModel_land_0 o n sh Rf I0 L0 post  hok hw ?_
  unfold fModel_land_0
  have l_249 : (0 : Int32).toInt = 0 := rfl
  refine y_Model_takeTape hok hw ra hz12 hz13 hz14 hz15 hz17 hz21 (by first | omega | (intro h; omega) | exact Or.inl rfl | exact Or.inr rfl) hR (fun I_255 L_256 hR_257 fr_258 kp_259 u_251 u_252 u_253 u_254 => ⟨I_255, L_256, rfl, rfl, ?_⟩)
  have hf_260 : Fm (fun c => c = o ∨ c = o + 2 ∨ (o + 6 ≤ c ∧ c < o + 26)) I0 I_255 := hf.call fr_258 (fun c hc => by first | exact hc | (dsimp only at hc ⊢; omega) | omega)
  have g_261 : (0 : Int) ≤ (I_255 o 3).toInt ∧ (I_255 o 3).toInt ≤ 1600 := hR_257.at0 ra 3 (by decide)
  have g_262 : (0 : Int) ≤ (I_255 o 4).toInt ∧ (I_255 o 4).toInt ≤ 5 := hR_257.at0 ra 4 (by decide)
  have t_263 : (I_255 o 6).toInt = (I0 o 6).toInt := by rw [kp_259 6 rfl]
  have g_264 : (0 : Int) ≤ (I_255 o 7).toInt ∧ (I_255 o 7).toInt ≤ 1601 := hR_257.at0 ra 7 (by decide)
  have t_265 : (I_255 o 8).toInt = (I0 o 8).toInt := by rw [kp_259 8 rfl]
  have t_266 : (I_255 o 9).toInt = (I0 o 9).toInt := by rw [kp_259 9 rfl]
  have g_267 : (0 : Int) ≤ (I_255 o 2).toInt ∧ (I_255 o 2).toInt ≤ 1600 := hR_257.at0 ra 2 (by decide)
  have t_268 : (I_255 o 67).toInt = (I0 o 67).toInt := by rw [kp_259 67 rfl]
  have k_269 : MFac I_255 o := hq0.fr (fr_258 _ (by first | omega | (dsimp only; omega))) (fr_258 _ (by first | omega | (dsimp only; omega))) (kp_259 67 rfl)
  have g_270 : (0 : Int) ≤ (I_255 o 34).toInt ∧ (I_255 o 34).toInt ≤ 1 := hR_257.at0 ra 34 (by decide)
  have l_271 : (1 : Int32).toInt = 1 := rfl
  have a_272 : (1 - (I_255 o 34)).toInt = (1 : Int32).toInt - (I_255 o 34).toInt := tSub (by omega) (by omega)
  refine fun I_273 e_274 => ?_
  have hR_275 : RI R I_273 := hR_257.up0 (k := 35) ra (by decide) (Or.inr hz45) e_274 (show (0 : Int) ≤ (1 - (I_255 o 34)).toInt by omega) (show (1 - (I_255 o 34)).toInt ≤ (1 : Int) by omega)
  have hf_276 : Fm (fun c => c = o ∨ c = o + 2 ∨ (o + 6 ≤ c ∧ c < o + 26)) I0 I_273 := hf_260.set (by first | rfl | omega | (dsimp only; omega)) e_274
  have t_277 : (I_273 o 3).toInt = (I_255 o 3).toInt := by rw [← e_274, q_u_k (by decide)]
  have t_278 : (I_273 o 4).toInt = (I_255 o 4).toInt := by rw [← e_274, q_u_k (by decide)]
  have t_279 : (I_273 o 6).toInt = (I_255 o 6).toInt := by rw [← e_274, q_u_k (by decide)]
  have t_280 : (I_273 o 7).toInt = (I_255 o 7).toInt := by rw [← e_274, q_u_k (by decide)]
  have t_281 : (I_273 o 8).toInt = (I_255 o 8).toInt := by rw [← e_274, q_u_k (by decide)]
  have t_282 : (I_273 o 9).toInt = (I_255 o 9).toInt := by rw [← e_274, q_u_k (by decide)]
  have t_283 : (I_273 o 2).toInt = (I_255 o 2).toInt := by rw [← e_274, q_u_k (by decide)]
  have t_284 : (I_273 o 67).toInt = (I_255 o 67).toInt := by rw [← e_274, q_u_k (by decide)]
  have t_285 : (I_273 o 34).toInt = (I_255 o 34).toInt := by rw [← e_274, q_u_k (by decide)]
  have t_286 : (I_273 o 35).toInt = (1 - (I_255 o 34)).toInt := by rw [← e_274, q_u_at]
  have k_287 : MFac I_273 o := k_269.fr (by rw [← e_274]; exact q_u_ne (by omega)) (by rw [← e_274]; exact q_u_ne (by omega)) (by rw [← e_274, q_u_k (by decide)])
  have g_288 : (0 : Int) ≤ (I_273 o 35).toInt ∧ (I_273 o 35).toInt ≤ 1 := hR_275.at0 ra 35 (by decide)
  refine ⟨tIn (by omega) (by omega), fun I_289 e_290 => ?_⟩
  have hR_291 : RI R I_289 := hR_275.up ra 6 (by decide) (Or.inl rfl) e_290 (show (0 : Int) ≤ (0 : Int32).toInt by omega) (show (0 : Int32).toInt ≤ (24 : Int) by omega)
  have hf_292 : Fm (fun c => c = o ∨ c = o + 2 ∨ (o + 6 ≤ c ∧ c < o + 26)) I0 I_289 := hf_276.set (by first | rfl | omega | (dsimp only; omega)) e_290
  have t_293 : (I_289 o 3).toInt = (I_273 o 3).toInt := by rw [← e_290, q_u_ne (by omega)]
  have t_294 : (I_289 o 4).toInt = (I_273 o 4).toInt := by rw [← e_290, q_u_ne (by omega)]
  have t_295 : (I_289 o 6).toInt = (I_273 o 6).toInt := by rw [← e_290, q_u_ne (by omega)]
  have t_296 : (I_289 o 7).toInt = (I_273 o 7).toInt := by rw [← e_290, q_u_ne (by omega)]
  have t_297 : (I_289 o 8).toInt = (I_273 o 8).toInt := by rw [← e_290, q_u_ne (by omega)]
  have t_298 : (I_289 o 9).toInt = (I_273 o 9).toInt := by rw [← e_290, q_u_ne (by omega)]
  have t_299 : (I_289 o 2).toInt = (I_273 o 2).toInt := by rw [← e_290, q_u_ne (by omega)]
  have t_300 : (I_289 o 67).toInt = (I_273 o 67).toInt := by rw [← e_290, q_u_ne (by omega)]
  have t_301 : (I_289 o 34).toInt = (I_273 o 34).toInt := by rw [← e_290, q_u_ne (by omega)]
  have t_302 : (I_289 o 35).toInt = (I_273 o 35).toInt := by rw [← e_290, q_u_ne (by omega)]
  have k_303 : MFac I_289 o := k_287.fr (by rw [← e_290]; exact q_u_ne (by omega)) (by rw [← e_290]; exact q_u_ne (by omega)) (by rw [← e_290, q_u_ne (by omega)])
  have g_304 : (0 : Int) ≤ (I_289 o 35).toInt ∧ (I_289 o 35).toInt ≤ 1 := hR_291.at0 ra 35 (by decide)
  refine ⟨tIn (by omega) (by omega), fun I_305 e_306 => ?_⟩
  have hR_307 : RI R I_305 := hR_291.up ra 7 (by decide) (Or.inl rfl) e_306 (show (0 : Int) ≤ (0 : Int32).toInt by omega) (show (0 : Int32).toInt ≤ (3 : Int) by omega)
  have hf_308 : Fm (fun c => c = o ∨ c = o + 2 ∨ (o + 6 ≤ c ∧ c < o + 26)) I0 I_305 := hf_292.set (by first | rfl | omega | (dsimp only; omega)) e_306
  have t_309 : (I_305 o 3).toInt = (I_289 o 3).toInt := by rw [← e_306, q_u_ne (by omega)]
  have t_310 : (I_305 o 4).toInt = (I_289 o 4).toInt := by rw [← e_306, q_u_ne (by omega)]
  have t_311 : (I_305 o 6).toInt = (I_289 o 6).toInt := by rw [← e_306, q_u_ne (by omega)]
  have t_312 : (I_305 o 7).toInt = (I_289 o 7).toInt := by rw [← e_306, q_u_ne (by omega)]
  have t_313 : (I_305 o 8).toInt = (I_289 o 8).toInt := by rw [← e_306, q_u_ne (by omega)]
  have t_314 : (I_305 o 9).toInt = (I_289 o 9).toInt := by rw [← e_306, q_u_ne (by omega)]
  have t_315 : (I_305 o 2).toInt = (I_289 o 2).toInt := by rw [← e_306, q_u_ne (by omega)]
  have t_316 : (I_305 o 67).toInt = (I_289 o 67).toInt := by rw [← e_306, q_u_ne (by omega)]
  have t_317 : (I_305 o 34).toInt = (I_289 o 34).toInt := by rw [← e_306, q_u_ne (by omega)]
  have t_318 : (I_305 o 35).toInt = (I_289 o 35).toInt := by rw [← e_306, q_u_ne (by omega)]
  have k_319 : MFac I_305 o := k_303.fr (by rw [← e_306]; exact q_u_ne (by omega)) (by rw [← e_306]; exact q_u_ne (by omega)) (by rw [← e_306, q_u_ne (by omega)])
  have g_320 : (0 : Int) ≤ (I_305 o 35).toInt ∧ (I_305 o 35).toInt ≤ 1 := hR_307.at0 ra 35 (by decide)
  refine ⟨tIn (by omega) (by omega), fun I_321 e_322 => ?_⟩
  have hR_323 : RI R I_321 := hR_307.up ra 8 (by decide) (Or.inl rfl) e_322 (show (0 : Int) ≤ (0 : Int32).toInt by omega) (show (0 : Int32).toInt ≤ (3 : Int) by omega)
  have hf_324 : Fm (fun c => c = o ∨ c = o + 2 ∨ (o + 6 ≤ c ∧ c < o + 26)) I0 I_321 := hf_308.set (by first | rfl | omega | (dsimp only; omega)) e_322
  have t_325 : (I_321 o 3).toInt = (I_305 o 3).toInt := by rw [← e_322, q_u_ne (by omega)]
  have t_326 : (I_321 o 4).toInt = (I_305 o 4).toInt := by rw [← e_322, q_u_ne (by omega)]
  have t_327 : (I_321 o 6).toInt = (I_305 o 6).toInt := by rw [← e_322, q_u_ne (by omega)]
  have t_328 : (I_321 o 7).toInt = (I_305 o 7).toInt := by rw [← e_322, q_u_ne (by omega)]
  have t_329 : (I_321 o 8).toInt = (I_305 o 8).toInt := by rw [← e_322, q_u_ne (by omega)]
  have t_330 : (I_321 o 9).toInt = (I_305 o 9).toInt := by rw [← e_322, q_u_ne (by omega)]
  have t_331 : (I_321 o 2).toInt = (I_305 o 2).toInt := by rw [← e_322, q_u_ne (by omega)]
  have t_332 : (I_321 o 67).toInt = (I_305 o 67).toInt := by rw [← e_322, q_u_ne (by omega)]
  have t_333 : (I_321 o 34).toInt = (I_305 o 34).toInt := by rw [← e_322, q_u_ne (by omega)]
  have t_334 : (I_321 o 35).toInt = (I_305 o 35).toInt := by rw [← e_322, q_u_ne (by omega)]
  have k_335 : MFac I_321 o := k_319.fr (by rw [← e_322]; exact q_u_ne (by omega)) (by rw [← e_322]; exact q_u_ne (by omega)) (by rw [← e_322, q_u_ne (by omega)])
  have g_336 : (0 : Int) ≤ (I_321 o 35).toInt ∧ (I_321 o 35).toInt ≤ 1 := hR_323.at0 ra 35 (by decide)
  refine ⟨tIn (by omega) (by omega), fun I_337 e_338 => ?_⟩
  have hR_339 : RI R I_337 := hR_323.up ra 9 (by decide) (Or.inl rfl) e_338 (show (0 : Int) ≤ (0 : Int32).toInt by omega) (show (0 : Int32).toInt ≤ (5 : Int) by omega)
  have hf_340 : Fm (fun c => c = o ∨ c = o + 2 ∨ (o + 6 ≤ c ∧ c < o + 26)) I0 I_337 := hf_324.set (by first | rfl | omega | (dsimp only; omega)) e_338
  have t_341 : (I_337 o 3).toInt = (I_321 o 3).toInt := by rw [← e_338, q_u_ne (by omega)]
  have t_342 : (I_337 o 4).toInt = (I_321 o 4).toInt := by rw [← e_338, q_u_ne (by omega)]
  have t_343 : (I_337 o 6).toInt = (I_321 o 6).toInt := by rw [← e_338, q_u_ne (by omega)]
  have t_344 : (I_337 o 7).toInt = (I_321 o 7).toInt := by rw [← e_338, q_u_ne (by omega)]
  have t_345 : (I_337 o 8).toInt = (I_321 o 8).toInt := by rw [← e_338, q_u_ne (by omega)]
  have t_346 : (I_337 o 9).toInt = (I_321 o 9).toInt := by rw [← e_338, q_u_ne (by omega)]
  have t_347 : (I_337 o 2).toInt = (I_321 o 2).toInt := by rw [← e_338, q_u_ne (by omega)]
  have t_348 : (I_337 o 67).toInt = (I_321 o 67).toInt := by rw [← e_338, q_u_ne (by omega)]
  have t_349 : (I_337 o 34).toInt = (I_321 o 34).toInt := by rw [← e_338, q_u_ne (by omega)]
  have t_350 : (I_337 o 35).toInt = (I_321 o 35).toInt := by rw [← e_338, q_u_ne (by omega)]
  have k_351 : MFac I_337 o := k_335.fr (by rw [← e_338]; exact q_u_ne (by omega)) (by rw [← e_338]; exact q_u_ne (by omega)) (by rw [← e_338, q_u_ne (by omega)])
  refine y_Model_next hok hw ra hz16 hz17 hz18 hz19 (by first | omega | (intro h; omega) | exact Or.inl rfl | exact Or.inr rfl) hR_339 (fun I_361 L_362 hR_363 fr_364 kp_365 u_353 u_354 u_355 u_356 u_357 u_358 u_359 u_360 => ⟨I_361, L_362, rfl, rfl, ?_⟩)
  have hf_366 : Fm (fun c => c = o ∨ c = o + 2 ∨ (o + 6 ≤ c ∧ c < o + 26)) I0 I_361 := hf_340.call fr_364 (fun c hc => by first | exact hc | (dsimp only at hc ⊢; omega) | omega)
  have t_367 : (I_361 o 3).toInt = (I_337 o 3).toInt := by rw [kp_365 3 rfl]
  have t_368 : (I_361 o 4).toInt = (I_337 o 4).toInt := by rw [kp_365 4 rfl]
  have g_369 : (0 : Int) ≤ (I_361 o 6).toInt ∧ (I_361 o 6).toInt ≤ 1600 := hR_363.at0 ra 6 (by decide)
  have g_370 : (0 : Int) ≤ (I_361 o 7).toInt ∧ (I_361 o 7).toInt ≤ 1601 := hR_363.at0 ra 7 (by decide)
  have g_371 : (0 : Int) ≤ (I_361 o 8).toInt ∧ (I_361 o 8).toInt ≤ 6 := hR_363.at0 ra 8 (by decide)
  have t_372 : (I_361 o 2).toInt = (I_337 o 2).toInt := by rw [kp_365 2 rfl]
  have t_373 : (I_361 o 67).toInt = (I_337 o 67).toInt := by rw [kp_365 67 rfl]
  have t_374 : (I_361 o 34).toInt = (I_337 o 34).toInt := by rw [kp_365 34 rfl]
  have t_375 : (I_361 o 35).toInt = (I_337 o 35).toInt := by rw [kp_365 35 rfl]
  have k_376 : MFac I_361 o := k_351.fr (fr_364 _ (by first | omega | (dsimp only; omega))) (fr_364 _ (by first | omega | (dsimp only; omega))) (kp_365 67 rfl)
  exact yModel_land_59 (I0 := I0) (L0 := L0) hok hw ra hz12 hz13 hz14 hz15 hz16 hz17 hz18 hz19 hz21 hz44 hz45 hz77 hz145 hZ hR0 hq0 hp  _ hR_363 hf_366 (by first | omega | (intro h; omega) | exact Or.inl rfl | exact Or.inr rfl) (by first | omega | (intro h; omega) | exact Or.inl rfl | exact Or.inr rfl) k_376 u_359 u_360 (Nat.lt_succ_self _)
theorem y_Model_land {D : va_G} {cA : FieldType → ClassId} {b : Nat} {E : State → Prop} {R : qRg} {o n : Nat} {sh : Nat → qC} {Rf : Nat → Nat → Option Nat} {I0 : Nat → Nat → Int32} {L0 : Nat → Nat → Int64} {post : Option Value → qS → Prop} (hok : q_ok (qGG D cA b E)) (hw : WfModel (qGG D cA b E) n sh Rf o) (ra : RAModel R o) (hz12 : R.2 12 = true) (hz13 : R.2 13 = true) (hz14 : R.2 14 = true) (hz15 : R.2 15 = true) (hz16 : R.2 16 = true) (hz17 : R.2 17 = true) (hz18 : R.2 18 = true) (hz19 : R.2 19 = true) (hz21 : R.2 21 = true) (hz44 : R.2 44 = true) (hz45 : R.2 45 = true) (hz77 : R.2 77 = true) (hz145 : R.2 145 = true) (hq0 : MFac I0 o) (hR : RI R I0) (hp : ∀ (r : Int32) (I' : Nat → Nat → Int32) (L' : Nat → Nat → Int64), RI R I' → Fm (fun c => c = o ∨ c = o + 2 ∨ (o + 6 ≤ c ∧ c < o + 26)) I0 I' → Kp wModel_land I0 I' o → ((I' o 2).toInt = 0) → (MFac I' o) → post (some (.int r)) (n, sh, Rf, I', L')) : Ev (qGG D cA b E) mModel_land 7 (0, 0) 0 (lv_args 0 [.ref o]) [] (n, sh, Rf, I0, L0) post :=
  yc_Model_land (R := fzR R I0 o wModel_land) hok hw (fzA ra hR _) (fzT hz12 rfl) (fzT hz13 rfl) (fzT hz14 rfl) (fzT hz15 rfl) (fzT hz16 rfl) (fzT hz17 rfl) (fzT hz18 rfl) (fzT hz19 rfl) (fzT hz21 rfl) (fzT hz44 rfl) (fzT hz45 rfl) (fzT hz77 rfl) (fzT hz145 rfl) fzZ (fzI hR) hq0 (fzI hR) (fun r I' L' h1 h2 u0 u1 => hp r I' L' (fzB hR h1) h2 (fzP h1) u0 u1)
