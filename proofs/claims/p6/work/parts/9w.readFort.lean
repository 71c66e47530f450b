/-! Safety of the reference, the lines of a LAND: by program (spec.py). -/
def wModel_readFort : Nat → Bool := fun j => Nat.beq j 14 || Nat.beq j 15 || Nat.beq j 16 || Nat.beq j 17 || Nat.beq j 18 || Nat.beq j 19 || false
set_option maxHeartbeats 4000000 in
set_option maxRecDepth 20000 in
theorem yc_Model_readFort {D : va_G} {cA : FieldType → ClassId} {b : Nat} {E : State → Prop} {R : qRg} {o n : Nat} {sh : Nat → qC} {Rf : Nat → Nat → Option Nat} {I0 : Nat → Nat → Int32} {L0 : Nat → Nat → Int64} {post : Option Value → qS → Prop} (hok : q_ok (qGG D cA b E)) (hw : WfModel (qGG D cA b E) n sh Rf o) (ra : RAModel R o) (hz14 : R.2 14 = true) (hz15 : R.2 15 = true) (hz16 : R.2 16 = true) (hz17 : R.2 17 = true) (hz18 : R.2 18 = true) (hz19 : R.2 19 = true) (hZ : Fz R I0 o wModel_readFort) (hR0 : RI R I0) (hq0 : (I0 o 7).toInt ≤ (I0 o 3).toInt) (hq1 : (I0 (o + 7) (I0 o 35 : Int32).toNatClampNeg).toInt ≤ 2) (hq2 : MPo I0 o) (hq3 : MTk I0 o) (hR : RI R I0) (hp : ∀ (I' : Nat → Nat → Int32) (L' : Nat → Nat → Int64), RI R I' → Fm (fun c => c = o ∨ c = o + 7 ∨ (o + 13 ≤ c ∧ c < o + 16)) I0 I' → ((I' o 7).toInt ≤ (I' o 3).toInt) → ((I0 o 7).toInt ≤ (I' o 7).toInt) → ((I0 o 4).toInt ≤ (I' o 4).toInt) → (7 * (I0 o 7).toInt - (I0 o 8).toInt + (I0 o 4).toInt ≤ 7 * (I' o 7).toInt - (I' o 8).toInt + (I' o 4).toInt) → (MPo I' o) → (MTk I' o) → post none (n, sh, Rf, I', L')) : Ev (qGG D cA b E) mModel_readFort 5 (0, 0) 0 (lv_args 0 [.ref o]) [] (n, sh, Rf, I0, L0) post := by
  have hf : Fm (fun c => c = o ∨ c = o + 7 ∨ (o + 13 ≤ c ∧ c < o + 16)) I0 I0 := Fm.rf
  have g_1 : (0 : Int) ≤ (I0 o 3).toInt ∧ (I0 o 3).toInt ≤ 1600 := hR.at0 ra 3 (by decide)
  have g_2 : (0 : Int) ≤ (I0 o 4).toInt ∧ (I0 o 4).toInt ≤ 5 := hR.at0 ra 4 (by decide)
  have g_3 : (0 : Int) ≤ (I0 o 6).toInt ∧ (I0 o 6).toInt ≤ 1600 := hR.at0 ra 6 (by decide)
  have g_4 : (0 : Int) ≤ (I0 o 7).toInt ∧ (I0 o 7).toInt ≤ 1601 := hR.at0 ra 7 (by decide)
  have g_5 : (0 : Int) ≤ (I0 o 8).toInt ∧ (I0 o 8).toInt ≤ 6 := hR.at0 ra 8 (by decide)
  refine sModel_readFort_0 o n sh Rf I0 L0 post  hok hw ?_
  unfold fModel_readFort_0
  have g_6 : (0 : Int) ≤ (I0 o 35).toInt ∧ (I0 o 35).toInt ≤ 1 := hR.at0 ra 35 (by decide)
  have l_7 : (3 : Int32).toInt = 3 := rfl
  have a_8 : (3 * (I0 o 35)).toInt = 3 * (I0 o 35).toInt := tMulL rfl (by omega) (by omega)
  have g_9 : (0 : Int) ≤ (I0 o 35).toInt ∧ (I0 o 35).toInt ≤ 1 := hR.at0 ra 35 (by decide)
  refine ⟨tIn (by omega) (by omega), ?_⟩
  have g_10 : (0 : Int) ≤ (I0 (o + 7) ((I0 o 35) : Int32).toNatClampNeg).toInt ∧ (I0 (o + 7) ((I0 o 35) : Int32).toNatClampNeg).toInt ≤ 3 := hR.at ra 7 _ (by decide)
  have a_11 : ((3 * (I0 o 35)) + (I0 (o + 7) ((I0 o 35) : Int32).toNatClampNeg)).toInt = (3 * (I0 o 35)).toInt + (I0 (o + 7) ((I0 o 35) : Int32).toNatClampNeg).toInt := tAdd (by omega) (by omega)
  refine y_Model_newName hok hw ra hz14 hz15 hz16 hz17 hz18 hz19 (by first | omega | (intro h; omega) | exact Or.inl rfl | exact Or.inr rfl) hq2 hq3 hR (fun r_12 I_19 L_20 hR_21 fr_22 kp_23 u_13 u_14 u_15 u_16 u_17 u_18 => ⟨r_12, I_19, L_20, rfl, rfl, ?_⟩)
  have hf_24 : Fm (fun c => c = o ∨ c = o + 7 ∨ (o + 13 ≤ c ∧ c < o + 16)) I0 I_19 := hf.call fr_22 (fun c hc => by first | exact hc | (dsimp only at hc ⊢; omega) | omega)
  have t_25 : (I_19 o 3).toInt = (I0 o 3).toInt := by rw [kp_23 3 rfl]
  have g_26 : (0 : Int) ≤ (I_19 o 4).toInt ∧ (I_19 o 4).toInt ≤ 5 := hR_21.at0 ra 4 (by decide)
  have g_27 : (0 : Int) ≤ (I_19 o 6).toInt ∧ (I_19 o 6).toInt ≤ 1600 := hR_21.at0 ra 6 (by decide)
  have g_28 : (0 : Int) ≤ (I_19 o 7).toInt ∧ (I_19 o 7).toInt ≤ 1601 := hR_21.at0 ra 7 (by decide)
  have g_29 : (0 : Int) ≤ (I_19 o 8).toInt ∧ (I_19 o 8).toInt ≤ 6 := hR_21.at0 ra 8 (by decide)
  have t_30 : (I_19 o 35).toInt = (I0 o 35).toInt := by rw [kp_23 35 rfl]
  have s_31 : (I0 o 7).toInt ≤ (I_19 o 7).toInt := by omega
  have s_32 : (I0 o 4).toInt ≤ (I_19 o 4).toInt := by omega
  have s_33 : (I_19 o 7).toInt ≤ (I_19 o 3).toInt := by omega
  have s_34 : 7 * (I0 o 7).toInt - (I0 o 8).toInt + (I0 o 4).toInt ≤ 7 * (I_19 o 7).toInt - (I_19 o 8).toInt + (I_19 o 4).toInt := by omega
  clear t_25 g_26 g_27 g_28 g_29 t_30 u_13 u_14 u_15 u_16
  have t_35 : (I_19 o 3).toInt = (I0 o 3).toInt := by rw [hZ I_19 3 rfl hR_21]
  have g_36 : (0 : Int) ≤ (I_19 o 3).toInt ∧ (I_19 o 3).toInt ≤ 1600 := hR_21.at0 ra 3 (by decide)
  have g_37 : (0 : Int) ≤ (I_19 o 4).toInt ∧ (I_19 o 4).toInt ≤ 5 := hR_21.at0 ra 4 (by decide)
  have g_38 : (0 : Int) ≤ (I_19 o 6).toInt ∧ (I_19 o 6).toInt ≤ 1600 := hR_21.at0 ra 6 (by decide)
  have g_39 : (0 : Int) ≤ (I_19 o 7).toInt ∧ (I_19 o 7).toInt ≤ 1601 := hR_21.at0 ra 7 (by decide)
  have g_40 : (0 : Int) ≤ (I_19 o 8).toInt ∧ (I_19 o 8).toInt ≤ 6 := hR_21.at0 ra 8 (by decide)
  have t_41 : (I_19 o 35).toInt = (I0 o 35).toInt := by rw [hZ I_19 35 rfl hR_21]
  have g_42 : (0 : Int) ≤ (I_19 o 35).toInt ∧ (I_19 o 35).toInt ≤ 1 := hR_21.at0 ra 35 (by decide)
  have w_43 : I_19 (o + 7) = I0 (o + 7) := (fr_22 (o + 7) (by first | omega | (dsimp only; omega)))
  refine ⟨tIn (by omega) (by omega), fun L_44 e_45 => ?_⟩
  refine y_Model_point hok hw ra hz14 hz15 hz16 hz17 hz18 hz19 (by first | omega | (intro h; omega) | exact Or.inl rfl | exact Or.inr rfl) u_17 u_18 hR_21 (fun r_46 I_54 L_55 hR_56 fr_57 kp_58 u_47 u_48 u_49 u_50 u_51 u_52 u_53 => ⟨r_46, I_54, L_55, rfl, rfl, ?_⟩)
  have hf_59 : Fm (fun c => c = o ∨ c = o + 7 ∨ (o + 13 ≤ c ∧ c < o + 16)) I0 I_54 := hf_24.call fr_57 (fun c hc => by first | exact hc | (dsimp only at hc ⊢; omega) | omega)
  have t_60 : (I_54 o 3).toInt = (I_19 o 3).toInt := by rw [kp_58 3 rfl]
  have g_61 : (0 : Int) ≤ (I_54 o 4).toInt ∧ (I_54 o 4).toInt ≤ 5 := hR_56.at0 ra 4 (by decide)
  have g_62 : (0 : Int) ≤ (I_54 o 6).toInt ∧ (I_54 o 6).toInt ≤ 1600 := hR_56.at0 ra 6 (by decide)
  have g_63 : (0 : Int) ≤ (I_54 o 7).toInt ∧ (I_54 o 7).toInt ≤ 1601 := hR_56.at0 ra 7 (by decide)
  have g_64 : (0 : Int) ≤ (I_54 o 8).toInt ∧ (I_54 o 8).toInt ≤ 6 := hR_56.at0 ra 8 (by decide)
  have t_65 : (I_54 o 35).toInt = (I_19 o 35).toInt := by rw [kp_58 35 rfl]
  have s_66 : (I0 o 7).toInt ≤ (I_54 o 7).toInt := by omega
  have s_67 : (I0 o 4).toInt ≤ (I_54 o 4).toInt := by omega
  have s_68 : (I_54 o 7).toInt ≤ (I_54 o 3).toInt := by omega
  have s_69 : 7 * (I0 o 7).toInt - (I0 o 8).toInt + (I0 o 4).toInt ≤ 7 * (I_54 o 7).toInt - (I_54 o 8).toInt + (I_54 o 4).toInt := by omega
  clear s_31 s_32 s_33 s_34 t_35 g_36 g_37 g_38 g_39 g_40 t_41 g_42 t_60 g_61 g_62 g_63 g_64 t_65 u_48 u_49 u_50 u_51
  have t_70 : (I_54 o 3).toInt = (I0 o 3).toInt := by rw [hZ I_54 3 rfl hR_56]
  have g_71 : (0 : Int) ≤ (I_54 o 3).toInt ∧ (I_54 o 3).toInt ≤ 1600 := hR_56.at0 ra 3 (by decide)
  have g_72 : (0 : Int) ≤ (I_54 o 4).toInt ∧ (I_54 o 4).toInt ≤ 5 := hR_56.at0 ra 4 (by decide)
  have g_73 : (0 : Int) ≤ (I_54 o 6).toInt ∧ (I_54 o 6).toInt ≤ 1600 := hR_56.at0 ra 6 (by decide)
  have g_74 : (0 : Int) ≤ (I_54 o 7).toInt ∧ (I_54 o 7).toInt ≤ 1601 := hR_56.at0 ra 7 (by decide)
  have g_75 : (0 : Int) ≤ (I_54 o 8).toInt ∧ (I_54 o 8).toInt ≤ 6 := hR_56.at0 ra 8 (by decide)
  have t_76 : (I_54 o 35).toInt = (I0 o 35).toInt := by rw [hZ I_54 35 rfl hR_56]
  have g_77 : (0 : Int) ≤ (I_54 o 35).toInt ∧ (I_54 o 35).toInt ≤ 1 := hR_56.at0 ra 35 (by decide)
  have w_78 : I_54 (o + 7) = I0 (o + 7) := (fr_57 (o + 7) (by first | omega | (dsimp only; omega))).trans w_43
  refine ⟨tIn (by omega) (by omega), fun I_79 e_80 => ?_⟩
  have hR_81 : RI R I_79 := hR_56.up ra 13 (by decide) (Or.inl rfl) e_80 (show (0 : Int) ≤ r_46.toInt by omega) (show r_46.toInt ≤ (15 : Int) by omega)
  have hf_82 : Fm (fun c => c = o ∨ c = o + 7 ∨ (o + 13 ≤ c ∧ c < o + 16)) I0 I_79 := hf_59.set (by first | rfl | omega | (dsimp only; omega)) e_80
  have t_83 : (I_79 o 3).toInt = (I_54 o 3).toInt := by rw [← e_80, q_u_ne (by omega)]
  have t_84 : (I_79 o 4).toInt = (I_54 o 4).toInt := by rw [← e_80, q_u_ne (by omega)]
  have t_85 : (I_79 o 6).toInt = (I_54 o 6).toInt := by rw [← e_80, q_u_ne (by omega)]
  have t_86 : (I_79 o 7).toInt = (I_54 o 7).toInt := by rw [← e_80, q_u_ne (by omega)]
  have t_87 : (I_79 o 8).toInt = (I_54 o 8).toInt := by rw [← e_80, q_u_ne (by omega)]
  have t_88 : (I_79 o 9).toInt = (I_54 o 9).toInt := by rw [← e_80, q_u_ne (by omega)]
  have t_89 : (I_79 o 35).toInt = (I_54 o 35).toInt := by rw [← e_80, q_u_ne (by omega)]
  have k_90 : MPo I_79 o := u_52.fr (by rw [← e_80, q_u_ne (by omega)]) (by rw [← e_80, q_u_ne (by omega)])
  have k_91 : MTk I_79 o := u_53.fr (by rw [← e_80, q_u_ne (by omega)]) (by rw [← e_80, q_u_ne (by omega)]) (by rw [← e_80, q_u_ne (by omega)])
  have w_92 : I_79 (o + 7) = I0 (o + 7) := by rw [← e_80, q_u_ne (by omega)]; exact w_78
  have l_93 : (1700885619 : Int32).toInt = 1700885619 := rfl
  refine y_Model_isWord hok hw ra hR_81 (fun r_94 u_95 u_96 => ⟨r_94, I_79, L_55, rfl, rfl, ?_⟩)
  have b_97 : 0 ≤ r_94.toInt ∧ r_94.toInt ≤ 1 := u_95.rg
  refine y_Model_must hok hw ra hz14 hz15 hz16 hz17 hz18 hz19 (by first | omega | (intro h; omega) | exact Or.inl rfl | exact Or.inr rfl) k_90 k_91 hR_81 (fun I_108 L_109 hR_110 fr_111 kp_112 u_99 u_100 u_101 u_102 u_103 u_104 u_105 u_106 u_107 => ⟨I_108, L_109, rfl, rfl, ?_⟩)
  have hf_113 : Fm (fun c => c = o ∨ c = o + 7 ∨ (o + 13 ≤ c ∧ c < o + 16)) I0 I_108 := hf_82.call fr_111 (fun c hc => by first | exact hc | (dsimp only at hc ⊢; omega) | omega)
  have t_114 : (I_108 o 3).toInt = (I_79 o 3).toInt := by rw [kp_112 3 rfl]
  have g_115 : (0 : Int) ≤ (I_108 o 4).toInt ∧ (I_108 o 4).toInt ≤ 5 := hR_110.at0 ra 4 (by decide)
  have g_116 : (0 : Int) ≤ (I_108 o 6).toInt ∧ (I_108 o 6).toInt ≤ 1600 := hR_110.at0 ra 6 (by decide)
  have g_117 : (0 : Int) ≤ (I_108 o 7).toInt ∧ (I_108 o 7).toInt ≤ 1601 := hR_110.at0 ra 7 (by decide)
  have g_118 : (0 : Int) ≤ (I_108 o 8).toInt ∧ (I_108 o 8).toInt ≤ 6 := hR_110.at0 ra 8 (by decide)
  have t_119 : (I_108 o 35).toInt = (I_79 o 35).toInt := by rw [kp_112 35 rfl]
  have s_120 : (I0 o 7).toInt ≤ (I_108 o 7).toInt := by omega
  have s_121 : (I0 o 4).toInt ≤ (I_108 o 4).toInt := by omega
  have s_122 : (I_108 o 7).toInt ≤ (I_108 o 3).toInt := by omega
  have s_123 : 7 * (I0 o 7).toInt - (I0 o 8).toInt + (I0 o 4).toInt ≤ 7 * (I_108 o 7).toInt - (I_108 o 8).toInt + (I_108 o 4).toInt := by omega
  clear s_66 s_67 s_68 s_69 t_70 g_71 g_72 g_73 g_74 g_75 t_76 g_77 t_83 t_84 t_85 t_86 t_87 t_88 t_89 t_114 g_115 g_116 g_117 g_118 t_119 u_99 u_100 u_101 u_102 u_104
  have t_124 : (I_108 o 3).toInt = (I0 o 3).toInt := by rw [hZ I_108 3 rfl hR_110]
  have g_125 : (0 : Int) ≤ (I_108 o 3).toInt ∧ (I_108 o 3).toInt ≤ 1600 := hR_110.at0 ra 3 (by decide)
  have g_126 : (0 : Int) ≤ (I_108 o 4).toInt ∧ (I_108 o 4).toInt ≤ 5 := hR_110.at0 ra 4 (by decide)
  have g_127 : (0 : Int) ≤ (I_108 o 6).toInt ∧ (I_108 o 6).toInt ≤ 1600 := hR_110.at0 ra 6 (by decide)
  have g_128 : (0 : Int) ≤ (I_108 o 7).toInt ∧ (I_108 o 7).toInt ≤ 1601 := hR_110.at0 ra 7 (by decide)
  have g_129 : (0 : Int) ≤ (I_108 o 8).toInt ∧ (I_108 o 8).toInt ≤ 6 := hR_110.at0 ra 8 (by decide)
  have t_130 : (I_108 o 35).toInt = (I0 o 35).toInt := by rw [hZ I_108 35 rfl hR_110]
  have g_131 : (0 : Int) ≤ (I_108 o 35).toInt ∧ (I_108 o 35).toInt ≤ 1 := hR_110.at0 ra 35 (by decide)
  have w_132 : I_108 (o + 7) = I0 (o + 7) := (fr_111 (o + 7) (by first | omega | (dsimp only; omega))).trans w_92
  have l_133 : (0 : Int32).toInt = 0 := rfl
  have l_134 : (999 : Int32).toInt = 999 := rfl
  refine y_Model_numeral hok hw ra hz14 hz15 hz16 hz17 hz18 hz19 (by first | omega | (intro h; omega) | exact Or.inl rfl | exact Or.inr rfl) u_106 u_107 hR_110 (fun r_135 I_143 L_144 hR_145 fr_146 kp_147 u_136 u_137 u_138 u_139 u_140 u_141 u_142 => ⟨r_135, I_143, L_144, rfl, rfl, ?_⟩)
  have hf_148 : Fm (fun c => c = o ∨ c = o + 7 ∨ (o + 13 ≤ c ∧ c < o + 16)) I0 I_143 := hf_113.call fr_146 (fun c hc => by first | exact hc | (dsimp only at hc ⊢; omega) | omega)
  have t_149 : (I_143 o 3).toInt = (I_108 o 3).toInt := by rw [kp_147 3 rfl]
  have g_150 : (0 : Int) ≤ (I_143 o 4).toInt ∧ (I_143 o 4).toInt ≤ 5 := hR_145.at0 ra 4 (by decide)
  have g_151 : (0 : Int) ≤ (I_143 o 6).toInt ∧ (I_143 o 6).toInt ≤ 1600 := hR_145.at0 ra 6 (by decide)
  have g_152 : (0 : Int) ≤ (I_143 o 7).toInt ∧ (I_143 o 7).toInt ≤ 1601 := hR_145.at0 ra 7 (by decide)
  have g_153 : (0 : Int) ≤ (I_143 o 8).toInt ∧ (I_143 o 8).toInt ≤ 6 := hR_145.at0 ra 8 (by decide)
  have t_154 : (I_143 o 35).toInt = (I_108 o 35).toInt := by rw [kp_147 35 rfl]
  have s_155 : (I0 o 7).toInt ≤ (I_143 o 7).toInt := by omega
  have s_156 : (I0 o 4).toInt ≤ (I_143 o 4).toInt := by omega
  have s_157 : (I_143 o 7).toInt ≤ (I_143 o 3).toInt := by omega
  have s_158 : 7 * (I0 o 7).toInt - (I0 o 8).toInt + (I0 o 4).toInt ≤ 7 * (I_143 o 7).toInt - (I_143 o 8).toInt + (I_143 o 4).toInt := by omega
  clear s_120 s_121 s_122 s_123 t_124 g_125 g_126 g_127 g_128 g_129 t_130 g_131 t_149 g_150 g_151 g_152 g_153 t_154 u_136 u_137 u_138 u_139
  have t_159 : (I_143 o 3).toInt = (I0 o 3).toInt := by rw [hZ I_143 3 rfl hR_145]
  have g_160 : (0 : Int) ≤ (I_143 o 3).toInt ∧ (I_143 o 3).toInt ≤ 1600 := hR_145.at0 ra 3 (by decide)
  have g_161 : (0 : Int) ≤ (I_143 o 4).toInt ∧ (I_143 o 4).toInt ≤ 5 := hR_145.at0 ra 4 (by decide)
  have g_162 : (0 : Int) ≤ (I_143 o 6).toInt ∧ (I_143 o 6).toInt ≤ 1600 := hR_145.at0 ra 6 (by decide)
  have g_163 : (0 : Int) ≤ (I_143 o 7).toInt ∧ (I_143 o 7).toInt ≤ 1601 := hR_145.at0 ra 7 (by decide)
  have g_164 : (0 : Int) ≤ (I_143 o 8).toInt ∧ (I_143 o 8).toInt ≤ 6 := hR_145.at0 ra 8 (by decide)
  have t_165 : (I_143 o 35).toInt = (I0 o 35).toInt := by rw [hZ I_143 35 rfl hR_145]
  have g_166 : (0 : Int) ≤ (I_143 o 35).toInt ∧ (I_143 o 35).toInt ≤ 1 := hR_145.at0 ra 35 (by decide)
  have w_167 : I_143 (o + 7) = I0 (o + 7) := (fr_146 (o + 7) (by first | omega | (dsimp only; omega))).trans w_132
  refine ⟨tIn (by omega) (by omega), fun I_168 e_169 => ?_⟩
  have hR_170 : RI R I_168 := hR_145.up ra 14 (by decide) (Or.inl rfl) e_169 (i_lo _) (i_hi _)
  have hf_171 : Fm (fun c => c = o ∨ c = o + 7 ∨ (o + 13 ≤ c ∧ c < o + 16)) I0 I_168 := hf_148.set (by first | rfl | omega | (dsimp only; omega)) e_169
  have t_172 : (I_168 o 3).toInt = (I_143 o 3).toInt := by rw [← e_169, q_u_ne (by omega)]
  have t_173 : (I_168 o 4).toInt = (I_143 o 4).toInt := by rw [← e_169, q_u_ne (by omega)]
  have t_174 : (I_168 o 6).toInt = (I_143 o 6).toInt := by rw [← e_169, q_u_ne (by omega)]
  have t_175 : (I_168 o 7).toInt = (I_143 o 7).toInt := by rw [← e_169, q_u_ne (by omega)]
  have t_176 : (I_168 o 8).toInt = (I_143 o 8).toInt := by rw [← e_169, q_u_ne (by omega)]
  have t_177 : (I_168 o 9).toInt = (I_143 o 9).toInt := by rw [← e_169, q_u_ne (by omega)]
  have t_178 : (I_168 o 35).toInt = (I_143 o 35).toInt := by rw [← e_169, q_u_ne (by omega)]
  have k_179 : MPo I_168 o := u_141.fr (by rw [← e_169, q_u_ne (by omega)]) (by rw [← e_169, q_u_ne (by omega)])
  have k_180 : MTk I_168 o := u_142.fr (by rw [← e_169, q_u_ne (by omega)]) (by rw [← e_169, q_u_ne (by omega)]) (by rw [← e_169, q_u_ne (by omega)])
  have w_181 : I_168 (o + 7) = I0 (o + 7) := by rw [← e_169, q_u_ne (by omega)]; exact w_167
  refine y_Model_isWord hok hw ra hR_170 (fun r_182 u_183 u_184 => ⟨r_182, I_168, L_144, rfl, rfl, ?_⟩)
  have b_185 : 0 ≤ r_182.toInt ∧ r_182.toInt ≤ 1 := u_183.rg
  refine y_Model_must hok hw ra hz14 hz15 hz16 hz17 hz18 hz19 (by first | omega | (intro h; omega) | exact Or.inl rfl | exact Or.inr rfl) k_179 k_180 hR_170 (fun I_196 L_197 hR_198 fr_199 kp_200 u_187 u_188 u_189 u_190 u_191 u_192 u_193 u_194 u_195 => ⟨I_196, L_197, rfl, rfl, ?_⟩)
  have hf_201 : Fm (fun c => c = o ∨ c = o + 7 ∨ (o + 13 ≤ c ∧ c < o + 16)) I0 I_196 := hf_171.call fr_199 (fun c hc => by first | exact hc | (dsimp only at hc ⊢; omega) | omega)
  have t_202 : (I_196 o 3).toInt = (I_168 o 3).toInt := by rw [kp_200 3 rfl]
  have g_203 : (0 : Int) ≤ (I_196 o 4).toInt ∧ (I_196 o 4).toInt ≤ 5 := hR_198.at0 ra 4 (by decide)
  have g_204 : (0 : Int) ≤ (I_196 o 6).toInt ∧ (I_196 o 6).toInt ≤ 1600 := hR_198.at0 ra 6 (by decide)
  have g_205 : (0 : Int) ≤ (I_196 o 7).toInt ∧ (I_196 o 7).toInt ≤ 1601 := hR_198.at0 ra 7 (by decide)
  have g_206 : (0 : Int) ≤ (I_196 o 8).toInt ∧ (I_196 o 8).toInt ≤ 6 := hR_198.at0 ra 8 (by decide)
  have t_207 : (I_196 o 35).toInt = (I_168 o 35).toInt := by rw [kp_200 35 rfl]
  have s_208 : (I0 o 7).toInt ≤ (I_196 o 7).toInt := by omega
  have s_209 : (I0 o 4).toInt ≤ (I_196 o 4).toInt := by omega
  have s_210 : (I_196 o 7).toInt ≤ (I_196 o 3).toInt := by omega
  have s_211 : 7 * (I0 o 7).toInt - (I0 o 8).toInt + (I0 o 4).toInt ≤ 7 * (I_196 o 7).toInt - (I_196 o 8).toInt + (I_196 o 4).toInt := by omega
  clear s_155 s_156 s_157 s_158 t_159 g_160 g_161 g_162 g_163 g_164 t_165 g_166 t_172 t_173 t_174 t_175 t_176 t_177 t_178 t_202 g_203 g_204 g_205 g_206 t_207 u_187 u_188 u_189 u_190 u_192
  have t_212 : (I_196 o 3).toInt = (I0 o 3).toInt := by rw [hZ I_196 3 rfl hR_198]
  have g_213 : (0 : Int) ≤ (I_196 o 3).toInt ∧ (I_196 o 3).toInt ≤ 1600 := hR_198.at0 ra 3 (by decide)
  have g_214 : (0 : Int) ≤ (I_196 o 4).toInt ∧ (I_196 o 4).toInt ≤ 5 := hR_198.at0 ra 4 (by decide)
  have g_215 : (0 : Int) ≤ (I_196 o 6).toInt ∧ (I_196 o 6).toInt ≤ 1600 := hR_198.at0 ra 6 (by decide)
  have g_216 : (0 : Int) ≤ (I_196 o 7).toInt ∧ (I_196 o 7).toInt ≤ 1601 := hR_198.at0 ra 7 (by decide)
  have g_217 : (0 : Int) ≤ (I_196 o 8).toInt ∧ (I_196 o 8).toInt ≤ 6 := hR_198.at0 ra 8 (by decide)
  have t_218 : (I_196 o 35).toInt = (I0 o 35).toInt := by rw [hZ I_196 35 rfl hR_198]
  have g_219 : (0 : Int) ≤ (I_196 o 35).toInt ∧ (I_196 o 35).toInt ≤ 1 := hR_198.at0 ra 35 (by decide)
  have w_220 : I_196 (o + 7) = I0 (o + 7) := (fr_199 (o + 7) (by first | omega | (dsimp only; omega))).trans w_181
  have l_221 : (9999 : Int32).toInt = 9999 := rfl
  refine y_Model_numeral hok hw ra hz14 hz15 hz16 hz17 hz18 hz19 (by first | omega | (intro h; omega) | exact Or.inl rfl | exact Or.inr rfl) u_194 u_195 hR_198 (fun r_222 I_230 L_231 hR_232 fr_233 kp_234 u_223 u_224 u_225 u_226 u_227 u_228 u_229 => ⟨r_222, I_230, L_231, rfl, rfl, ?_⟩)
  have hf_235 : Fm (fun c => c = o ∨ c = o + 7 ∨ (o + 13 ≤ c ∧ c < o + 16)) I0 I_230 := hf_201.call fr_233 (fun c hc => by first | exact hc | (dsimp only at hc ⊢; omega) | omega)
  have t_236 : (I_230 o 3).toInt = (I_196 o 3).toInt := by rw [kp_234 3 rfl]
  have g_237 : (0 : Int) ≤ (I_230 o 4).toInt ∧ (I_230 o 4).toInt ≤ 5 := hR_232.at0 ra 4 (by decide)
  have g_238 : (0 : Int) ≤ (I_230 o 6).toInt ∧ (I_230 o 6).toInt ≤ 1600 := hR_232.at0 ra 6 (by decide)
  have g_239 : (0 : Int) ≤ (I_230 o 7).toInt ∧ (I_230 o 7).toInt ≤ 1601 := hR_232.at0 ra 7 (by decide)
  have g_240 : (0 : Int) ≤ (I_230 o 8).toInt ∧ (I_230 o 8).toInt ≤ 6 := hR_232.at0 ra 8 (by decide)
  have t_241 : (I_230 o 35).toInt = (I_196 o 35).toInt := by rw [kp_234 35 rfl]
  have s_242 : (I0 o 7).toInt ≤ (I_230 o 7).toInt := by omega
  have s_243 : (I0 o 4).toInt ≤ (I_230 o 4).toInt := by omega
  have s_244 : (I_230 o 7).toInt ≤ (I_230 o 3).toInt := by omega
  have s_245 : 7 * (I0 o 7).toInt - (I0 o 8).toInt + (I0 o 4).toInt ≤ 7 * (I_230 o 7).toInt - (I_230 o 8).toInt + (I_230 o 4).toInt := by omega
  clear s_208 s_209 s_210 s_211 t_212 g_213 g_214 g_215 g_216 g_217 t_218 g_219 t_236 g_237 g_238 g_239 g_240 t_241 u_223 u_224 u_225 u_226
  have t_246 : (I_230 o 3).toInt = (I0 o 3).toInt := by rw [hZ I_230 3 rfl hR_232]
  have g_247 : (0 : Int) ≤ (I_230 o 3).toInt ∧ (I_230 o 3).toInt ≤ 1600 := hR_232.at0 ra 3 (by decide)
  have g_248 : (0 : Int) ≤ (I_230 o 4).toInt ∧ (I_230 o 4).toInt ≤ 5 := hR_232.at0 ra 4 (by decide)
  have g_249 : (0 : Int) ≤ (I_230 o 6).toInt ∧ (I_230 o 6).toInt ≤ 1600 := hR_232.at0 ra 6 (by decide)
  have g_250 : (0 : Int) ≤ (I_230 o 7).toInt ∧ (I_230 o 7).toInt ≤ 1601 := hR_232.at0 ra 7 (by decide)
  have g_251 : (0 : Int) ≤ (I_230 o 8).toInt ∧ (I_230 o 8).toInt ≤ 6 := hR_232.at0 ra 8 (by decide)
  have t_252 : (I_230 o 35).toInt = (I0 o 35).toInt := by rw [hZ I_230 35 rfl hR_232]
  have g_253 : (0 : Int) ≤ (I_230 o 35).toInt ∧ (I_230 o 35).toInt ≤ 1 := hR_232.at0 ra 35 (by decide)
  have w_254 : I_230 (o + 7) = I0 (o + 7) := (fr_233 (o + 7) (by first | omega | (dsimp only; omega))).trans w_220
  refine ⟨tIn (by omega) (by omega), fun I_255 e_256 => ?_⟩
  have hR_257 : RI R I_255 := hR_232.up ra 15 (by decide) (Or.inl rfl) e_256 (i_lo _) (i_hi _)
  have hf_258 : Fm (fun c => c = o ∨ c = o + 7 ∨ (o + 13 ≤ c ∧ c < o + 16)) I0 I_255 := hf_235.set (by first | rfl | omega | (dsimp only; omega)) e_256
  have t_259 : (I_255 o 3).toInt = (I_230 o 3).toInt := by rw [← e_256, q_u_ne (by omega)]
  have t_260 : (I_255 o 4).toInt = (I_230 o 4).toInt := by rw [← e_256, q_u_ne (by omega)]
  have t_261 : (I_255 o 6).toInt = (I_230 o 6).toInt := by rw [← e_256, q_u_ne (by omega)]
  have t_262 : (I_255 o 7).toInt = (I_230 o 7).toInt := by rw [← e_256, q_u_ne (by omega)]
  have t_263 : (I_255 o 8).toInt = (I_230 o 8).toInt := by rw [← e_256, q_u_ne (by omega)]
  have t_264 : (I_255 o 9).toInt = (I_230 o 9).toInt := by rw [← e_256, q_u_ne (by omega)]
  have t_265 : (I_255 o 35).toInt = (I_230 o 35).toInt := by rw [← e_256, q_u_ne (by omega)]
  have k_266 : MPo I_255 o := u_228.fr (by rw [← e_256, q_u_ne (by omega)]) (by rw [← e_256, q_u_ne (by omega)])
  have k_267 : MTk I_255 o := u_229.fr (by rw [← e_256, q_u_ne (by omega)]) (by rw [← e_256, q_u_ne (by omega)]) (by rw [← e_256, q_u_ne (by omega)])
  have w_268 : I_255 (o + 7) = I0 (o + 7) := by rw [← e_256, q_u_ne (by omega)]; exact w_254
  refine y_Model_isGood hok hw ra hR_257 (fun r_269 u_270 u_271 u_272 => ⟨r_269, I_255, L_231, rfl, rfl, ?_⟩)
  have b_273 : 0 ≤ r_269.toInt ∧ r_269.toInt ≤ 1 := u_270.rg
  refine ⟨fun c_274 => ?_, fun c_274 => ?_⟩
  · have d_275 := iEq c_274
    have i_276 := u_272 (by omega)
    exact (hp _ _ hR_257 hf_258 (by first | omega | (intro h; omega) | exact Or.inl rfl | exact Or.inr rfl) (by first | omega | (intro h; omega) | exact Or.inl rfl | exact Or.inr rfl) (by first | omega | (intro h; omega) | exact Or.inl rfl | exact Or.inr rfl) (by first | omega | (intro h; omega) | exact Or.inl rfl | exact Or.inr rfl) k_266 k_267)
  · have d_277 := iNe c_274
    have i_278 := u_271 (by omega)
    have g_279 : (0 : Int) ≤ (I_255 o 35).toInt ∧ (I_255 o 35).toInt ≤ 1 := hR_257.at0 ra 35 (by decide)
    have rk : (I_255 (o + 7) (I_255 o 35 : Int32).toNatClampNeg).toInt = (I0 (o + 7) (I0 o 35 : Int32).toNatClampNeg).toInt := by rw [w_268, hZ I_255 35 rfl hR_257]
    refine ⟨tIn (by omega) (by omega), ?_⟩
    have g_280 : (0 : Int) ≤ (I_255 (o + 7) ((I_255 o 35) : Int32).toNatClampNeg).toInt ∧ (I_255 (o + 7) ((I_255 o 35) : Int32).toNatClampNeg).toInt ≤ 3 := hR_257.at ra 7 _ (by decide)
    have l_281 : (1 : Int32).toInt = 1 := rfl
    have a_282 : ((I_255 (o + 7) ((I_255 o 35) : Int32).toNatClampNeg) + 1).toInt = (I_255 (o + 7) ((I_255 o 35) : Int32).toNatClampNeg).toInt + (1 : Int32).toInt := tAdd (by omega) (by omega)
    refine ⟨tIn (by omega) (by omega), fun I_283 e_284 => ?_⟩
    have hR_285 : RI R I_283 := hR_257.up ra 7 (by decide) (Or.inl rfl) e_284 (show (0 : Int) ≤ ((I_255 (o + 7) ((I_255 o 35) : Int32).toNatClampNeg) + 1).toInt by omega) (show ((I_255 (o + 7) ((I_255 o 35) : Int32).toNatClampNeg) + 1).toInt ≤ (3 : Int) by omega)
    have hf_286 : Fm (fun c => c = o ∨ c = o + 7 ∨ (o + 13 ≤ c ∧ c < o + 16)) I0 I_283 := hf_258.set (by first | rfl | omega | (dsimp only; omega)) e_284
    have t_287 : (I_283 o 3).toInt = (I_255 o 3).toInt := by rw [← e_284, q_u_ne (by omega)]
    have t_288 : (I_283 o 4).toInt = (I_255 o 4).toInt := by rw [← e_284, q_u_ne (by omega)]
    have t_289 : (I_283 o 6).toInt = (I_255 o 6).toInt := by rw [← e_284, q_u_ne (by omega)]
    have t_290 : (I_283 o 7).toInt = (I_255 o 7).toInt := by rw [← e_284, q_u_ne (by omega)]
    have t_291 : (I_283 o 8).toInt = (I_255 o 8).toInt := by rw [← e_284, q_u_ne (by omega)]
    have t_292 : (I_283 o 9).toInt = (I_255 o 9).toInt := by rw [← e_284, q_u_ne (by omega)]
    have t_293 : (I_283 o 35).toInt = (I_255 o 35).toInt := by rw [← e_284, q_u_ne (by omega)]
    have k_294 : MPo I_283 o := k_266.fr (by rw [← e_284, q_u_ne (by omega)]) (by rw [← e_284, q_u_ne (by omega)])
    have k_295 : MTk I_283 o := k_267.fr (by rw [← e_284, q_u_ne (by omega)]) (by rw [← e_284, q_u_ne (by omega)]) (by rw [← e_284, q_u_ne (by omega)])
    exact (hp _ _ hR_285 hf_286 (by first | omega | (intro h; omega) | exact Or.inl rfl | exact Or.inr rfl) (by first | omega | (intro h; omega) | exact Or.inl rfl | exact Or.inr rfl) (by first | omega | (intro h; omega) | exact Or.inl rfl | exact Or.inr rfl) (by first | omega | (intro h; omega) | exact Or.inl rfl | exact Or.inr rfl) k_294 k_295)
theorem y_Model_readFort {D : va_G} {cA : FieldType → ClassId} {b : Nat} {E : State → Prop} {R : qRg} {o n : Nat} {sh : Nat → qC} {Rf : Nat → Nat → Option Nat} {I0 : Nat → Nat → Int32} {L0 : Nat → Nat → Int64} {post : Option Value → qS → Prop} (hok : q_ok (qGG D cA b E)) (hw : WfModel (qGG D cA b E) n sh Rf o) (ra : RAModel R o) (hz14 : R.2 14 = true) (hz15 : R.2 15 = true) (hz16 : R.2 16 = true) (hz17 : R.2 17 = true) (hz18 : R.2 18 = true) (hz19 : R.2 19 = true) (hq0 : (I0 o 7).toInt ≤ (I0 o 3).toInt) (hq1 : (I0 (o + 7) (I0 o 35 : Int32).toNatClampNeg).toInt ≤ 2) (hq2 : MPo I0 o) (hq3 : MTk I0 o) (hR : RI R I0) (hp : ∀ (I' : Nat → Nat → Int32) (L' : Nat → Nat → Int64), RI R I' → Fm (fun c => c = o ∨ c = o + 7 ∨ (o + 13 ≤ c ∧ c < o + 16)) I0 I' → Kp wModel_readFort I0 I' o → ((I' o 7).toInt ≤ (I' o 3).toInt) → ((I0 o 7).toInt ≤ (I' o 7).toInt) → ((I0 o 4).toInt ≤ (I' o 4).toInt) → (7 * (I0 o 7).toInt - (I0 o 8).toInt + (I0 o 4).toInt ≤ 7 * (I' o 7).toInt - (I' o 8).toInt + (I' o 4).toInt) → (MPo I' o) → (MTk I' o) → post none (n, sh, Rf, I', L')) : Ev (qGG D cA b E) mModel_readFort 5 (0, 0) 0 (lv_args 0 [.ref o]) [] (n, sh, Rf, I0, L0) post :=
  yc_Model_readFort (R := fzR R I0 o wModel_readFort) hok hw (fzA ra hR _) (fzT hz14 rfl) (fzT hz15 rfl) (fzT hz16 rfl) (fzT hz17 rfl) (fzT hz18 rfl) (fzT hz19 rfl) fzZ (fzI hR) hq0 hq1 hq2 hq3 (fzI hR) (fun I' L' h1 h2 u0 u1 u2 u3 u4 u5 => hp I' L' (fzB hR h1) h2 (fzP h1) u0 u1 u2 u3 u4 u5)
