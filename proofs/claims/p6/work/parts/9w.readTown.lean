/-! Safety of the reference, the lines of a LAND: by program (spec.py). -/
def wModel_readTown : Nat → Bool := fun j => Nat.beq j 14 || Nat.beq j 15 || Nat.beq j 16 || Nat.beq j 17 || Nat.beq j 18 || Nat.beq j 19 || false
set_option maxHeartbeats 4000000 in
set_option maxRecDepth 20000 in
theorem yc_Model_readTown {D : va_G} {cA : FieldType → ClassId} {b : Nat} {E : State → Prop} {R : qRg} {o n : Nat} {sh : Nat → qC} {Rf : Nat → Nat → Option Nat} {I0 : Nat → Nat → Int32} {L0 : Nat → Nat → Int64} {post : Option Value → qS → Prop} (hok : q_ok (qGG D cA b E)) (hw : WfModel (qGG D cA b E) n sh Rf o) (ra : RAModel R o) (hz14 : R.2 14 = true) (hz15 : R.2 15 = true) (hz16 : R.2 16 = true) (hz17 : R.2 17 = true) (hz18 : R.2 18 = true) (hz19 : R.2 19 = true) (hZ : Fz R I0 o wModel_readTown) (hR0 : RI R I0) (hq0 : (I0 o 7).toInt ≤ (I0 o 3).toInt) (hq1 : (I0 (o + 9) (I0 o 35 : Int32).toNatClampNeg).toInt ≤ 4) (hq2 : MPo I0 o) (hq3 : MTk I0 o) (hR : RI R I0) (hp : ∀ (I' : Nat → Nat → Int32) (L' : Nat → Nat → Int64), RI R I' → Fm (fun c => c = o ∨ c = o + 9 ∨ (o + 19 ≤ c ∧ c < o + 25)) I0 I' → ((I' o 7).toInt ≤ (I' o 3).toInt) → ((I0 o 7).toInt ≤ (I' o 7).toInt) → ((I0 o 4).toInt ≤ (I' o 4).toInt) → (7 * (I0 o 7).toInt - (I0 o 8).toInt + (I0 o 4).toInt ≤ 7 * (I' o 7).toInt - (I' o 8).toInt + (I' o 4).toInt) → (MPo I' o) → (MTk I' o) → post none (n, sh, Rf, I', L')) : Ev (qGG D cA b E) mModel_readTown 5 (0, 0) 0 (lv_args 0 [.ref o]) [] (n, sh, Rf, I0, L0) post := by
  have hf : Fm (fun c => c = o ∨ c = o + 9 ∨ (o + 19 ≤ c ∧ c < o + 25)) I0 I0 := Fm.rf
  have g_1 : (0 : Int) ≤ (I0 o 3).toInt ∧ (I0 o 3).toInt ≤ 1600 := hR.at0 ra 3 (by decide)
  have g_2 : (0 : Int) ≤ (I0 o 4).toInt ∧ (I0 o 4).toInt ≤ 5 := hR.at0 ra 4 (by decide)
  have g_3 : (0 : Int) ≤ (I0 o 6).toInt ∧ (I0 o 6).toInt ≤ 1600 := hR.at0 ra 6 (by decide)
  have g_4 : (0 : Int) ≤ (I0 o 7).toInt ∧ (I0 o 7).toInt ≤ 1601 := hR.at0 ra 7 (by decide)
  have g_5 : (0 : Int) ≤ (I0 o 8).toInt ∧ (I0 o 8).toInt ≤ 6 := hR.at0 ra 8 (by decide)
  refine sModel_readTown_0 o n sh Rf I0 L0 post  hok hw ?_
  unfold fModel_readTown_0
  have g_6 : (0 : Int) ≤ (I0 o 35).toInt ∧ (I0 o 35).toInt ≤ 1 := hR.at0 ra 35 (by decide)
  have l_7 : (5 : Int32).toInt = 5 := rfl
  have a_8 : (5 * (I0 o 35)).toInt = 5 * (I0 o 35).toInt := tMulL rfl (by omega) (by omega)
  have g_9 : (0 : Int) ≤ (I0 o 35).toInt ∧ (I0 o 35).toInt ≤ 1 := hR.at0 ra 35 (by decide)
  refine ⟨tIn (by omega) (by omega), ?_⟩
  have g_10 : (0 : Int) ≤ (I0 (o + 9) ((I0 o 35) : Int32).toNatClampNeg).toInt ∧ (I0 (o + 9) ((I0 o 35) : Int32).toNatClampNeg).toInt ≤ 5 := hR.at ra 9 _ (by decide)
  have a_11 : ((5 * (I0 o 35)) + (I0 (o + 9) ((I0 o 35) : Int32).toNatClampNeg)).toInt = (5 * (I0 o 35)).toInt + (I0 (o + 9) ((I0 o 35) : Int32).toNatClampNeg).toInt := tAdd (by omega) (by omega)
  refine y_Model_newName hok hw ra hz14 hz15 hz16 hz17 hz18 hz19 (by first | omega | (intro h; omega) | exact Or.inl rfl | exact Or.inr rfl) hq2 hq3 hR (fun r_12 I_19 L_20 hR_21 fr_22 kp_23 u_13 u_14 u_15 u_16 u_17 u_18 => ⟨r_12, I_19, L_20, rfl, rfl, ?_⟩)
  have hf_24 : Fm (fun c => c = o ∨ c = o + 9 ∨ (o + 19 ≤ c ∧ c < o + 25)) I0 I_19 := hf.call fr_22 (fun c hc => by first | exact hc | (dsimp only at hc ⊢; omega) | omega)
  have t_25 : (I_19 o 3).toInt = (I0 o 3).toInt := by rw [kp_23 3 rfl]
  have g_26 : (0 : Int) ≤ (I_19 o 4).toInt ∧ (I_19 o 4).toInt ≤ 5 := hR_21.at0 ra 4 (by decide)
  have g_27 : (0 : Int) ≤ (I_19 o 6).toInt ∧ (I_19 o 6).toInt ≤ 1600 := hR_21.at0 ra 6 (by decide)
  have g_28 : (0 : Int) ≤ (I_19 o 7).toInt ∧ (I_19 o 7).toInt ≤ 1601 := hR_21.at0 ra 7 (by decide)
  have g_29 : (0 : Int) ≤ (I_19 o 8).toInt ∧ (I_19 o 8).toInt ≤ 6 := hR_21.at0 ra 8 (by decide)
  have t_30 : (I_19 o 35).toInt = (I0 o 35).toInt := by rw [kp_23 35 rfl]
  have s_31 : (I0 o 7).toInt ≤ (I_19 o 7).toInt := by omega
  have s_32 : (I0 o 4).toInt ≤ (I_19 o 4).toInt := by omega
  have s_33 : (I_19 o 7).toInt ≤ (I_19 o 3).toInt := by omega
  have s_34 : 7 * (I0 o 7).toInt - (I0 o 8).toInt + (I0 o 4).toInt ≤ 7 * (I_19 o 7).toInt - (I_19 o 8).toInt + (I_19 o 4).toInt := by omega
  clear t_25 g_26 g_27 g_28 g_29 t_30 u_13 u_14 u_15 u_16
  have t_35 : (I_19 o 3).toInt = (I0 o 3).toInt := by rw [hZ I_19 3 rfl hR_21]
  have g_36 : (0 : Int) ≤ (I_19 o 3).toInt ∧ (I_19 o 3).toInt ≤ 1600 := hR_21.at0 ra 3 (by decide)
  have g_37 : (0 : Int) ≤ (I_19 o 4).toInt ∧ (I_19 o 4).toInt ≤ 5 := hR_21.at0 ra 4 (by decide)
  have g_38 : (0 : Int) ≤ (I_19 o 6).toInt ∧ (I_19 o 6).toInt ≤ 1600 := hR_21.at0 ra 6 (by decide)
  have g_39 : (0 : Int) ≤ (I_19 o 7).toInt ∧ (I_19 o 7).toInt ≤ 1601 := hR_21.at0 ra 7 (by decide)
  have g_40 : (0 : Int) ≤ (I_19 o 8).toInt ∧ (I_19 o 8).toInt ≤ 6 := hR_21.at0 ra 8 (by decide)
  have t_41 : (I_19 o 35).toInt = (I0 o 35).toInt := by rw [hZ I_19 35 rfl hR_21]
  have g_42 : (0 : Int) ≤ (I_19 o 35).toInt ∧ (I_19 o 35).toInt ≤ 1 := hR_21.at0 ra 35 (by decide)
  have w_43 : I_19 (o + 9) = I0 (o + 9) := (fr_22 (o + 9) (by first | omega | (dsimp only; omega)))
  refine ⟨tIn (by omega) (by omega), fun L_44 e_45 => ?_⟩
  refine y_Model_point hok hw ra hz14 hz15 hz16 hz17 hz18 hz19 (by first | omega | (intro h; omega) | exact Or.inl rfl | exact Or.inr rfl) u_17 u_18 hR_21 (fun r_46 I_54 L_55 hR_56 fr_57 kp_58 u_47 u_48 u_49 u_50 u_51 u_52 u_53 => ⟨r_46, I_54, L_55, rfl, rfl, ?_⟩)
  have hf_59 : Fm (fun c => c = o ∨ c = o + 9 ∨ (o + 19 ≤ c ∧ c < o + 25)) I0 I_54 := hf_24.call fr_57 (fun c hc => by first | exact hc | (dsimp only at hc ⊢; omega) | omega)
  have t_60 : (I_54 o 3).toInt = (I_19 o 3).toInt := by rw [kp_58 3 rfl]
  have g_61 : (0 : Int) ≤ (I_54 o 4).toInt ∧ (I_54 o 4).toInt ≤ 5 := hR_56.at0 ra 4 (by decide)
  have g_62 : (0 : Int) ≤ (I_54 o 6).toInt ∧ (I_54 o 6).toInt ≤ 1600 := hR_56.at0 ra 6 (by decide)
  have g_63 : (0 : Int) ≤ (I_54 o 7).toInt ∧ (I_54 o 7).toInt ≤ 1601 := hR_56.at0 ra 7 (by decide)
  have g_64 : (0 : Int) ≤ (I_54 o 8).toInt ∧ (I_54 o 8).toInt ≤ 6 := hR_56.at0 ra 8 (by decide)
  have t_65 : (I_54 o 35).toInt = (I_19 o 35).toInt := by rw [kp_58 35 rfl]
  have s_66 : (I0 o 7).toInt ≤ (I_54 o 7).toInt := by omega
  have s_67 : (I0 o 4).toInt ≤ (I_54 o 4).toInt := by omega
  have s_68 : (I_54 o 7).toInt ≤ (I_54 o 3).toInt := by omega
  have s_69 : 7 * (I0 o 7).toInt - (I0 o 8).toInt + (I0 o 4).toInt ≤ 7 * (I_54 o 7).toInt - (I_54 o 8).toInt + (I_54 o 4).toInt := by omega
  clear s_31 s_32 s_33 s_34 t_35 g_36 g_37 g_38 g_39 g_40 t_41 g_42 t_60 g_61 g_62 g_63 g_64 t_65 u_48 u_49 u_50 u_51
  have t_70 : (I_54 o 3).toInt = (I0 o 3).toInt := by rw [hZ I_54 3 rfl hR_56]
  have g_71 : (0 : Int) ≤ (I_54 o 3).toInt ∧ (I_54 o 3).toInt ≤ 1600 := hR_56.at0 ra 3 (by decide)
  have g_72 : (0 : Int) ≤ (I_54 o 4).toInt ∧ (I_54 o 4).toInt ≤ 5 := hR_56.at0 ra 4 (by decide)
  have g_73 : (0 : Int) ≤ (I_54 o 6).toInt ∧ (I_54 o 6).toInt ≤ 1600 := hR_56.at0 ra 6 (by decide)
  have g_74 : (0 : Int) ≤ (I_54 o 7).toInt ∧ (I_54 o 7).toInt ≤ 1601 := hR_56.at0 ra 7 (by decide)
  have g_75 : (0 : Int) ≤ (I_54 o 8).toInt ∧ (I_54 o 8).toInt ≤ 6 := hR_56.at0 ra 8 (by decide)
  have t_76 : (I_54 o 35).toInt = (I0 o 35).toInt := by rw [hZ I_54 35 rfl hR_56]
  have g_77 : (0 : Int) ≤ (I_54 o 35).toInt ∧ (I_54 o 35).toInt ≤ 1 := hR_56.at0 ra 35 (by decide)
  have w_78 : I_54 (o + 9) = I0 (o + 9) := (fr_57 (o + 9) (by first | omega | (dsimp only; omega))).trans w_43
  refine ⟨tIn (by omega) (by omega), fun I_79 e_80 => ?_⟩
  have hR_81 : RI R I_79 := hR_56.up ra 19 (by decide) (Or.inl rfl) e_80 (show (0 : Int) ≤ r_46.toInt by omega) (show r_46.toInt ≤ (15 : Int) by omega)
  have hf_82 : Fm (fun c => c = o ∨ c = o + 9 ∨ (o + 19 ≤ c ∧ c < o + 25)) I0 I_79 := hf_59.set (by first | rfl | omega | (dsimp only; omega)) e_80
  have t_83 : (I_79 o 3).toInt = (I_54 o 3).toInt := by rw [← e_80, q_u_ne (by omega)]
  have t_84 : (I_79 o 4).toInt = (I_54 o 4).toInt := by rw [← e_80, q_u_ne (by omega)]
  have t_85 : (I_79 o 6).toInt = (I_54 o 6).toInt := by rw [← e_80, q_u_ne (by omega)]
  have t_86 : (I_79 o 7).toInt = (I_54 o 7).toInt := by rw [← e_80, q_u_ne (by omega)]
  have t_87 : (I_79 o 8).toInt = (I_54 o 8).toInt := by rw [← e_80, q_u_ne (by omega)]
  have t_88 : (I_79 o 9).toInt = (I_54 o 9).toInt := by rw [← e_80, q_u_ne (by omega)]
  have t_89 : (I_79 o 35).toInt = (I_54 o 35).toInt := by rw [← e_80, q_u_ne (by omega)]
  have k_90 : MPo I_79 o := u_52.fr (by rw [← e_80, q_u_ne (by omega)]) (by rw [← e_80, q_u_ne (by omega)])
  have k_91 : MTk I_79 o := u_53.fr (by rw [← e_80, q_u_ne (by omega)]) (by rw [← e_80, q_u_ne (by omega)]) (by rw [← e_80, q_u_ne (by omega)])
  have w_92 : I_79 (o + 9) = I0 (o + 9) := by rw [← e_80, q_u_ne (by omega)]; exact w_78
  have l_93 : (28518 : Int32).toInt = 28518 := rfl
  refine y_Model_isWord hok hw ra hR_81 (fun r_94 u_95 u_96 => ⟨r_94, I_79, L_55, rfl, rfl, ?_⟩)
  have b_97 : 0 ≤ r_94.toInt ∧ r_94.toInt ≤ 1 := u_95.rg
  refine y_Model_must hok hw ra hz14 hz15 hz16 hz17 hz18 hz19 (by first | omega | (intro h; omega) | exact Or.inl rfl | exact Or.inr rfl) k_90 k_91 hR_81 (fun I_108 L_109 hR_110 fr_111 kp_112 u_99 u_100 u_101 u_102 u_103 u_104 u_105 u_106 u_107 => ⟨I_108, L_109, rfl, rfl, ?_⟩)
  have hf_113 : Fm (fun c => c = o ∨ c = o + 9 ∨ (o + 19 ≤ c ∧ c < o + 25)) I0 I_108 := hf_82.call fr_111 (fun c hc => by first | exact hc | (dsimp only at hc ⊢; omega) | omega)
  have t_114 : (I_108 o 3).toInt = (I_79 o 3).toInt := by rw [kp_112 3 rfl]
  have g_115 : (0 : Int) ≤ (I_108 o 4).toInt ∧ (I_108 o 4).toInt ≤ 5 := hR_110.at0 ra 4 (by decide)
  have g_116 : (0 : Int) ≤ (I_108 o 6).toInt ∧ (I_108 o 6).toInt ≤ 1600 := hR_110.at0 ra 6 (by decide)
  have g_117 : (0 : Int) ≤ (I_108 o 7).toInt ∧ (I_108 o 7).toInt ≤ 1601 := hR_110.at0 ra 7 (by decide)
  have g_118 : (0 : Int) ≤ (I_108 o 8).toInt ∧ (I_108 o 8).toInt ≤ 6 := hR_110.at0 ra 8 (by decide)
  have t_119 : (I_108 o 35).toInt = (I_79 o 35).toInt := by rw [kp_112 35 rfl]
  have s_120 : (I0 o 7).toInt ≤ (I_108 o 7).toInt := by omega
  have s_121 : (I0 o 4).toInt ≤ (I_108 o 4).toInt := by omega
  have s_122 : (I_108 o 7).toInt ≤ (I_108 o 3).toInt := by omega
  have s_123 : 7 * (I0 o 7).toInt - (I0 o 8).toInt + (I0 o 4).toInt ≤ 7 * (I_108 o 7).toInt - (I_108 o 8).toInt + (I_108 o 4).toInt := by omega
  clear s_66 s_67 s_68 s_69 t_70 g_71 g_72 g_73 g_74 g_75 t_76 g_77 t_83 t_84 t_85 t_86 t_87 t_88 t_89 t_114 g_115 g_116 g_117 g_118 t_119 u_99 u_100 u_101 u_102 u_104
  have t_124 : (I_108 o 3).toInt = (I0 o 3).toInt := by rw [hZ I_108 3 rfl hR_110]
  have g_125 : (0 : Int) ≤ (I_108 o 3).toInt ∧ (I_108 o 3).toInt ≤ 1600 := hR_110.at0 ra 3 (by decide)
  have g_126 : (0 : Int) ≤ (I_108 o 4).toInt ∧ (I_108 o 4).toInt ≤ 5 := hR_110.at0 ra 4 (by decide)
  have g_127 : (0 : Int) ≤ (I_108 o 6).toInt ∧ (I_108 o 6).toInt ≤ 1600 := hR_110.at0 ra 6 (by decide)
  have g_128 : (0 : Int) ≤ (I_108 o 7).toInt ∧ (I_108 o 7).toInt ≤ 1601 := hR_110.at0 ra 7 (by decide)
  have g_129 : (0 : Int) ≤ (I_108 o 8).toInt ∧ (I_108 o 8).toInt ≤ 6 := hR_110.at0 ra 8 (by decide)
  have t_130 : (I_108 o 35).toInt = (I0 o 35).toInt := by rw [hZ I_108 35 rfl hR_110]
  have g_131 : (0 : Int) ≤ (I_108 o 35).toInt ∧ (I_108 o 35).toInt ≤ 1 := hR_110.at0 ra 35 (by decide)
  have w_132 : I_108 (o + 9) = I0 (o + 9) := (fr_111 (o + 9) (by first | omega | (dsimp only; omega))).trans w_92
  have l_133 : (0 : Int32).toInt = 0 := rfl
  have l_134 : (4 : Int32).toInt = 4 := rfl
  refine y_Model_numeral hok hw ra hz14 hz15 hz16 hz17 hz18 hz19 (by first | omega | (intro h; omega) | exact Or.inl rfl | exact Or.inr rfl) u_106 u_107 hR_110 (fun r_135 I_143 L_144 hR_145 fr_146 kp_147 u_136 u_137 u_138 u_139 u_140 u_141 u_142 => ⟨r_135, I_143, L_144, rfl, rfl, ?_⟩)
  have hf_148 : Fm (fun c => c = o ∨ c = o + 9 ∨ (o + 19 ≤ c ∧ c < o + 25)) I0 I_143 := hf_113.call fr_146 (fun c hc => by first | exact hc | (dsimp only at hc ⊢; omega) | omega)
  have t_149 : (I_143 o 3).toInt = (I_108 o 3).toInt := by rw [kp_147 3 rfl]
  have g_150 : (0 : Int) ≤ (I_143 o 4).toInt ∧ (I_143 o 4).toInt ≤ 5 := hR_145.at0 ra 4 (by decide)
  have g_151 : (0 : Int) ≤ (I_143 o 6).toInt ∧ (I_143 o 6).toInt ≤ 1600 := hR_145.at0 ra 6 (by decide)
  have g_152 : (0 : Int) ≤ (I_143 o 7).toInt ∧ (I_143 o 7).toInt ≤ 1601 := hR_145.at0 ra 7 (by decide)
  have g_153 : (0 : Int) ≤ (I_143 o 8).toInt ∧ (I_143 o 8).toInt ≤ 6 := hR_145.at0 ra 8 (by decide)
  have t_154 : (I_143 o 35).toInt = (I_108 o 35).toInt := by rw [kp_147 35 rfl]
  have s_155 : (I0 o 7).toInt ≤ (I_143 o 7).toInt := by omega
  have s_156 : (I0 o 4).toInt ≤ (I_143 o 4).toInt := by omega
  have s_157 : (I_143 o 7).toInt ≤ (I_143 o 3).toInt := by omega
  have s_158 : 7 * (I0 o 7).toInt - (I0 o 8).toInt + (I0 o 4).toInt ≤ 7 * (I_143 o 7).toInt - (I_143 o 8).toInt + (I_143 o 4).toInt := by omega
  clear s_120 s_121 s_122 s_123 t_124 g_125 g_126 g_127 g_128 g_129 t_130 g_131 t_149 g_150 g_151 g_152 g_153 t_154 u_136 u_137 u_138 u_139
  have t_159 : (I_143 o 3).toInt = (I0 o 3).toInt := by rw [hZ I_143 3 rfl hR_145]
  have g_160 : (0 : Int) ≤ (I_143 o 3).toInt ∧ (I_143 o 3).toInt ≤ 1600 := hR_145.at0 ra 3 (by decide)
  have g_161 : (0 : Int) ≤ (I_143 o 4).toInt ∧ (I_143 o 4).toInt ≤ 5 := hR_145.at0 ra 4 (by decide)
  have g_162 : (0 : Int) ≤ (I_143 o 6).toInt ∧ (I_143 o 6).toInt ≤ 1600 := hR_145.at0 ra 6 (by decide)
  have g_163 : (0 : Int) ≤ (I_143 o 7).toInt ∧ (I_143 o 7).toInt ≤ 1601 := hR_145.at0 ra 7 (by decide)
  have g_164 : (0 : Int) ≤ (I_143 o 8).toInt ∧ (I_143 o 8).toInt ≤ 6 := hR_145.at0 ra 8 (by decide)
  have t_165 : (I_143 o 35).toInt = (I0 o 35).toInt := by rw [hZ I_143 35 rfl hR_145]
  have g_166 : (0 : Int) ≤ (I_143 o 35).toInt ∧ (I_143 o 35).toInt ≤ 1 := hR_145.at0 ra 35 (by decide)
  have w_167 : I_143 (o + 9) = I0 (o + 9) := (fr_146 (o + 9) (by first | omega | (dsimp only; omega))).trans w_132
  refine ⟨tIn (by omega) (by omega), fun I_168 e_169 => ?_⟩
  have hR_170 : RI R I_168 := hR_145.up ra 20 (by decide) (Or.inl rfl) e_169 (i_lo _) (i_hi _)
  have hf_171 : Fm (fun c => c = o ∨ c = o + 9 ∨ (o + 19 ≤ c ∧ c < o + 25)) I0 I_168 := hf_148.set (by first | rfl | omega | (dsimp only; omega)) e_169
  have t_172 : (I_168 o 3).toInt = (I_143 o 3).toInt := by rw [← e_169, q_u_ne (by omega)]
  have t_173 : (I_168 o 4).toInt = (I_143 o 4).toInt := by rw [← e_169, q_u_ne (by omega)]
  have t_174 : (I_168 o 6).toInt = (I_143 o 6).toInt := by rw [← e_169, q_u_ne (by omega)]
  have t_175 : (I_168 o 7).toInt = (I_143 o 7).toInt := by rw [← e_169, q_u_ne (by omega)]
  have t_176 : (I_168 o 8).toInt = (I_143 o 8).toInt := by rw [← e_169, q_u_ne (by omega)]
  have t_177 : (I_168 o 9).toInt = (I_143 o 9).toInt := by rw [← e_169, q_u_ne (by omega)]
  have t_178 : (I_168 o 35).toInt = (I_143 o 35).toInt := by rw [← e_169, q_u_ne (by omega)]
  have k_179 : MPo I_168 o := u_141.fr (by rw [← e_169, q_u_ne (by omega)]) (by rw [← e_169, q_u_ne (by omega)])
  have k_180 : MTk I_168 o := u_142.fr (by rw [← e_169, q_u_ne (by omega)]) (by rw [← e_169, q_u_ne (by omega)]) (by rw [← e_169, q_u_ne (by omega)])
  have w_181 : I_168 (o + 9) = I0 (o + 9) := by rw [← e_169, q_u_ne (by omega)]; exact w_167
  refine y_Model_isWord hok hw ra hR_170 (fun r_182 u_183 u_184 => ⟨r_182, I_168, L_144, rfl, rfl, ?_⟩)
  have b_185 : 0 ≤ r_182.toInt ∧ r_182.toInt ≤ 1 := u_183.rg
  refine y_Model_must hok hw ra hz14 hz15 hz16 hz17 hz18 hz19 (by first | omega | (intro h; omega) | exact Or.inl rfl | exact Or.inr rfl) k_179 k_180 hR_170 (fun I_196 L_197 hR_198 fr_199 kp_200 u_187 u_188 u_189 u_190 u_191 u_192 u_193 u_194 u_195 => ⟨I_196, L_197, rfl, rfl, ?_⟩)
  have hf_201 : Fm (fun c => c = o ∨ c = o + 9 ∨ (o + 19 ≤ c ∧ c < o + 25)) I0 I_196 := hf_171.call fr_199 (fun c hc => by first | exact hc | (dsimp only at hc ⊢; omega) | omega)
  have t_202 : (I_196 o 3).toInt = (I_168 o 3).toInt := by rw [kp_200 3 rfl]
  have g_203 : (0 : Int) ≤ (I_196 o 4).toInt ∧ (I_196 o 4).toInt ≤ 5 := hR_198.at0 ra 4 (by decide)
  have g_204 : (0 : Int) ≤ (I_196 o 6).toInt ∧ (I_196 o 6).toInt ≤ 1600 := hR_198.at0 ra 6 (by decide)
  have g_205 : (0 : Int) ≤ (I_196 o 7).toInt ∧ (I_196 o 7).toInt ≤ 1601 := hR_198.at0 ra 7 (by decide)
  have g_206 : (0 : Int) ≤ (I_196 o 8).toInt ∧ (I_196 o 8).toInt ≤ 6 := hR_198.at0 ra 8 (by decide)
  have t_207 : (I_196 o 35).toInt = (I_168 o 35).toInt := by rw [kp_200 35 rfl]
  have s_208 : (I0 o 7).toInt ≤ (I_196 o 7).toInt := by omega
  have s_209 : (I0 o 4).toInt ≤ (I_196 o 4).toInt := by omega
  have s_210 : (I_196 o 7).toInt ≤ (I_196 o 3).toInt := by omega
  have s_211 : 7 * (I0 o 7).toInt - (I0 o 8).toInt + (I0 o 4).toInt ≤ 7 * (I_196 o 7).toInt - (I_196 o 8).toInt + (I_196 o 4).toInt := by omega
  clear s_155 s_156 s_157 s_158 t_159 g_160 g_161 g_162 g_163 g_164 t_165 g_166 t_172 t_173 t_174 t_175 t_176 t_177 t_178 t_202 g_203 g_204 g_205 g_206 t_207 u_187 u_188 u_189 u_190 u_192
  have t_212 : (I_196 o 3).toInt = (I0 o 3).toInt := by rw [hZ I_196 3 rfl hR_198]
  have g_213 : (0 : Int) ≤ (I_196 o 3).toInt ∧ (I_196 o 3).toInt ≤ 1600 := hR_198.at0 ra 3 (by decide)
  have g_214 : (0 : Int) ≤ (I_196 o 4).toInt ∧ (I_196 o 4).toInt ≤ 5 := hR_198.at0 ra 4 (by decide)
  have g_215 : (0 : Int) ≤ (I_196 o 6).toInt ∧ (I_196 o 6).toInt ≤ 1600 := hR_198.at0 ra 6 (by decide)
  have g_216 : (0 : Int) ≤ (I_196 o 7).toInt ∧ (I_196 o 7).toInt ≤ 1601 := hR_198.at0 ra 7 (by decide)
  have g_217 : (0 : Int) ≤ (I_196 o 8).toInt ∧ (I_196 o 8).toInt ≤ 6 := hR_198.at0 ra 8 (by decide)
  have t_218 : (I_196 o 35).toInt = (I0 o 35).toInt := by rw [hZ I_196 35 rfl hR_198]
  have g_219 : (0 : Int) ≤ (I_196 o 35).toInt ∧ (I_196 o 35).toInt ≤ 1 := hR_198.at0 ra 35 (by decide)
  have w_220 : I_196 (o + 9) = I0 (o + 9) := (fr_199 (o + 9) (by first | omega | (dsimp only; omega))).trans w_181
  have l_221 : (999 : Int32).toInt = 999 := rfl
  refine y_Model_numeral hok hw ra hz14 hz15 hz16 hz17 hz18 hz19 (by first | omega | (intro h; omega) | exact Or.inl rfl | exact Or.inr rfl) u_194 u_195 hR_198 (fun r_222 I_230 L_231 hR_232 fr_233 kp_234 u_223 u_224 u_225 u_226 u_227 u_228 u_229 => ⟨r_222, I_230, L_231, rfl, rfl, ?_⟩)
  have hf_235 : Fm (fun c => c = o ∨ c = o + 9 ∨ (o + 19 ≤ c ∧ c < o + 25)) I0 I_230 := hf_201.call fr_233 (fun c hc => by first | exact hc | (dsimp only at hc ⊢; omega) | omega)
  have t_236 : (I_230 o 3).toInt = (I_196 o 3).toInt := by rw [kp_234 3 rfl]
  have g_237 : (0 : Int) ≤ (I_230 o 4).toInt ∧ (I_230 o 4).toInt ≤ 5 := hR_232.at0 ra 4 (by decide)
  have g_238 : (0 : Int) ≤ (I_230 o 6).toInt ∧ (I_230 o 6).toInt ≤ 1600 := hR_232.at0 ra 6 (by decide)
  have g_239 : (0 : Int) ≤ (I_230 o 7).toInt ∧ (I_230 o 7).toInt ≤ 1601 := hR_232.at0 ra 7 (by decide)
  have g_240 : (0 : Int) ≤ (I_230 o 8).toInt ∧ (I_230 o 8).toInt ≤ 6 := hR_232.at0 ra 8 (by decide)
  have t_241 : (I_230 o 35).toInt = (I_196 o 35).toInt := by rw [kp_234 35 rfl]
  have s_242 : (I0 o 7).toInt ≤ (I_230 o 7).toInt := by omega
  have s_243 : (I0 o 4).toInt ≤ (I_230 o 4).toInt := by omega
  have s_244 : (I_230 o 7).toInt ≤ (I_230 o 3).toInt := by omega
  have s_245 : 7 * (I0 o 7).toInt - (I0 o 8).toInt + (I0 o 4).toInt ≤ 7 * (I_230 o 7).toInt - (I_230 o 8).toInt + (I_230 o 4).toInt := by omega
  clear s_208 s_209 s_210 s_211 t_212 g_213 g_214 g_215 g_216 g_217 t_218 g_219 t_236 g_237 g_238 g_239 g_240 t_241 u_223 u_224 u_225 u_226
  have t_246 : (I_230 o 3).toInt = (I0 o 3).toInt := by rw [hZ I_230 3 rfl hR_232]
  have g_247 : (0 : Int) ≤ (I_230 o 3).toInt ∧ (I_230 o 3).toInt ≤ 1600 := hR_232.at0 ra 3 (by decide)
  have g_248 : (0 : Int) ≤ (I_230 o 4).toInt ∧ (I_230 o 4).toInt ≤ 5 := hR_232.at0 ra 4 (by decide)
  have g_249 : (0 : Int) ≤ (I_230 o 6).toInt ∧ (I_230 o 6).toInt ≤ 1600 := hR_232.at0 ra 6 (by decide)
  have g_250 : (0 : Int) ≤ (I_230 o 7).toInt ∧ (I_230 o 7).toInt ≤ 1601 := hR_232.at0 ra 7 (by decide)
  have g_251 : (0 : Int) ≤ (I_230 o 8).toInt ∧ (I_230 o 8).toInt ≤ 6 := hR_232.at0 ra 8 (by decide)
  have t_252 : (I_230 o 35).toInt = (I0 o 35).toInt := by rw [hZ I_230 35 rfl hR_232]
  have g_253 : (0 : Int) ≤ (I_230 o 35).toInt ∧ (I_230 o 35).toInt ≤ 1 := hR_232.at0 ra 35 (by decide)
  have w_254 : I_230 (o + 9) = I0 (o + 9) := (fr_233 (o + 9) (by first | omega | (dsimp only; omega))).trans w_220
  refine ⟨tIn (by omega) (by omega), fun I_255 e_256 => ?_⟩
  have hR_257 : RI R I_255 := hR_232.up ra 21 (by decide) (Or.inl rfl) e_256 (i_lo _) (i_hi _)
  have hf_258 : Fm (fun c => c = o ∨ c = o + 9 ∨ (o + 19 ≤ c ∧ c < o + 25)) I0 I_255 := hf_235.set (by first | rfl | omega | (dsimp only; omega)) e_256
  have t_259 : (I_255 o 3).toInt = (I_230 o 3).toInt := by rw [← e_256, q_u_ne (by omega)]
  have t_260 : (I_255 o 4).toInt = (I_230 o 4).toInt := by rw [← e_256, q_u_ne (by omega)]
  have t_261 : (I_255 o 6).toInt = (I_230 o 6).toInt := by rw [← e_256, q_u_ne (by omega)]
  have t_262 : (I_255 o 7).toInt = (I_230 o 7).toInt := by rw [← e_256, q_u_ne (by omega)]
  have t_263 : (I_255 o 8).toInt = (I_230 o 8).toInt := by rw [← e_256, q_u_ne (by omega)]
  have t_264 : (I_255 o 9).toInt = (I_230 o 9).toInt := by rw [← e_256, q_u_ne (by omega)]
  have t_265 : (I_255 o 35).toInt = (I_230 o 35).toInt := by rw [← e_256, q_u_ne (by omega)]
  have k_266 : MPo I_255 o := u_228.fr (by rw [← e_256, q_u_ne (by omega)]) (by rw [← e_256, q_u_ne (by omega)])
  have k_267 : MTk I_255 o := u_229.fr (by rw [← e_256, q_u_ne (by omega)]) (by rw [← e_256, q_u_ne (by omega)]) (by rw [← e_256, q_u_ne (by omega)])
  have w_268 : I_255 (o + 9) = I0 (o + 9) := by rw [← e_256, q_u_ne (by omega)]; exact w_254
  refine y_Model_isWord hok hw ra hR_257 (fun r_269 u_270 u_271 => ⟨r_269, I_255, L_231, rfl, rfl, ?_⟩)
  have b_272 : 0 ≤ r_269.toInt ∧ r_269.toInt ≤ 1 := u_270.rg
  refine y_Model_must hok hw ra hz14 hz15 hz16 hz17 hz18 hz19 (by first | omega | (intro h; omega) | exact Or.inl rfl | exact Or.inr rfl) k_266 k_267 hR_257 (fun I_283 L_284 hR_285 fr_286 kp_287 u_274 u_275 u_276 u_277 u_278 u_279 u_280 u_281 u_282 => ⟨I_283, L_284, rfl, rfl, ?_⟩)
  have hf_288 : Fm (fun c => c = o ∨ c = o + 9 ∨ (o + 19 ≤ c ∧ c < o + 25)) I0 I_283 := hf_258.call fr_286 (fun c hc => by first | exact hc | (dsimp only at hc ⊢; omega) | omega)
  have t_289 : (I_283 o 3).toInt = (I_255 o 3).toInt := by rw [kp_287 3 rfl]
  have g_290 : (0 : Int) ≤ (I_283 o 4).toInt ∧ (I_283 o 4).toInt ≤ 5 := hR_285.at0 ra 4 (by decide)
  have g_291 : (0 : Int) ≤ (I_283 o 6).toInt ∧ (I_283 o 6).toInt ≤ 1600 := hR_285.at0 ra 6 (by decide)
  have g_292 : (0 : Int) ≤ (I_283 o 7).toInt ∧ (I_283 o 7).toInt ≤ 1601 := hR_285.at0 ra 7 (by decide)
  have g_293 : (0 : Int) ≤ (I_283 o 8).toInt ∧ (I_283 o 8).toInt ≤ 6 := hR_285.at0 ra 8 (by decide)
  have t_294 : (I_283 o 35).toInt = (I_255 o 35).toInt := by rw [kp_287 35 rfl]
  have s_295 : (I0 o 7).toInt ≤ (I_283 o 7).toInt := by omega
  have s_296 : (I0 o 4).toInt ≤ (I_283 o 4).toInt := by omega
  have s_297 : (I_283 o 7).toInt ≤ (I_283 o 3).toInt := by omega
  have s_298 : 7 * (I0 o 7).toInt - (I0 o 8).toInt + (I0 o 4).toInt ≤ 7 * (I_283 o 7).toInt - (I_283 o 8).toInt + (I_283 o 4).toInt := by omega
  clear s_242 s_243 s_244 s_245 t_246 g_247 g_248 g_249 g_250 g_251 t_252 g_253 t_259 t_260 t_261 t_262 t_263 t_264 t_265 t_289 g_290 g_291 g_292 g_293 t_294 u_274 u_275 u_276 u_277 u_279
  have t_299 : (I_283 o 3).toInt = (I0 o 3).toInt := by rw [hZ I_283 3 rfl hR_285]
  have g_300 : (0 : Int) ≤ (I_283 o 3).toInt ∧ (I_283 o 3).toInt ≤ 1600 := hR_285.at0 ra 3 (by decide)
  have g_301 : (0 : Int) ≤ (I_283 o 4).toInt ∧ (I_283 o 4).toInt ≤ 5 := hR_285.at0 ra 4 (by decide)
  have g_302 : (0 : Int) ≤ (I_283 o 6).toInt ∧ (I_283 o 6).toInt ≤ 1600 := hR_285.at0 ra 6 (by decide)
  have g_303 : (0 : Int) ≤ (I_283 o 7).toInt ∧ (I_283 o 7).toInt ≤ 1601 := hR_285.at0 ra 7 (by decide)
  have g_304 : (0 : Int) ≤ (I_283 o 8).toInt ∧ (I_283 o 8).toInt ≤ 6 := hR_285.at0 ra 8 (by decide)
  have t_305 : (I_283 o 35).toInt = (I0 o 35).toInt := by rw [hZ I_283 35 rfl hR_285]
  have g_306 : (0 : Int) ≤ (I_283 o 35).toInt ∧ (I_283 o 35).toInt ≤ 1 := hR_285.at0 ra 35 (by decide)
  have w_307 : I_283 (o + 9) = I0 (o + 9) := (fr_286 (o + 9) (by first | omega | (dsimp only; omega))).trans w_268
  have l_308 : (1 : Int32).toInt = 1 := rfl
  refine y_Model_numeral hok hw ra hz14 hz15 hz16 hz17 hz18 hz19 (by first | omega | (intro h; omega) | exact Or.inl rfl | exact Or.inr rfl) u_281 u_282 hR_285 (fun r_309 I_317 L_318 hR_319 fr_320 kp_321 u_310 u_311 u_312 u_313 u_314 u_315 u_316 => ⟨r_309, I_317, L_318, rfl, rfl, ?_⟩)
  have hf_322 : Fm (fun c => c = o ∨ c = o + 9 ∨ (o + 19 ≤ c ∧ c < o + 25)) I0 I_317 := hf_288.call fr_320 (fun c hc => by first | exact hc | (dsimp only at hc ⊢; omega) | omega)
  have t_323 : (I_317 o 3).toInt = (I_283 o 3).toInt := by rw [kp_321 3 rfl]
  have g_324 : (0 : Int) ≤ (I_317 o 4).toInt ∧ (I_317 o 4).toInt ≤ 5 := hR_319.at0 ra 4 (by decide)
  have g_325 : (0 : Int) ≤ (I_317 o 6).toInt ∧ (I_317 o 6).toInt ≤ 1600 := hR_319.at0 ra 6 (by decide)
  have g_326 : (0 : Int) ≤ (I_317 o 7).toInt ∧ (I_317 o 7).toInt ≤ 1601 := hR_319.at0 ra 7 (by decide)
  have g_327 : (0 : Int) ≤ (I_317 o 8).toInt ∧ (I_317 o 8).toInt ≤ 6 := hR_319.at0 ra 8 (by decide)
  have t_328 : (I_317 o 35).toInt = (I_283 o 35).toInt := by rw [kp_321 35 rfl]
  have s_329 : (I0 o 7).toInt ≤ (I_317 o 7).toInt := by omega
  have s_330 : (I0 o 4).toInt ≤ (I_317 o 4).toInt := by omega
  have s_331 : (I_317 o 7).toInt ≤ (I_317 o 3).toInt := by omega
  have s_332 : 7 * (I0 o 7).toInt - (I0 o 8).toInt + (I0 o 4).toInt ≤ 7 * (I_317 o 7).toInt - (I_317 o 8).toInt + (I_317 o 4).toInt := by omega
  clear s_295 s_296 s_297 s_298 t_299 g_300 g_301 g_302 g_303 g_304 t_305 g_306 t_323 g_324 g_325 g_326 g_327 t_328 u_310 u_311 u_312 u_313
  have t_333 : (I_317 o 3).toInt = (I0 o 3).toInt := by rw [hZ I_317 3 rfl hR_319]
  have g_334 : (0 : Int) ≤ (I_317 o 3).toInt ∧ (I_317 o 3).toInt ≤ 1600 := hR_319.at0 ra 3 (by decide)
  have g_335 : (0 : Int) ≤ (I_317 o 4).toInt ∧ (I_317 o 4).toInt ≤ 5 := hR_319.at0 ra 4 (by decide)
  have g_336 : (0 : Int) ≤ (I_317 o 6).toInt ∧ (I_317 o 6).toInt ≤ 1600 := hR_319.at0 ra 6 (by decide)
  have g_337 : (0 : Int) ≤ (I_317 o 7).toInt ∧ (I_317 o 7).toInt ≤ 1601 := hR_319.at0 ra 7 (by decide)
  have g_338 : (0 : Int) ≤ (I_317 o 8).toInt ∧ (I_317 o 8).toInt ≤ 6 := hR_319.at0 ra 8 (by decide)
  have t_339 : (I_317 o 35).toInt = (I0 o 35).toInt := by rw [hZ I_317 35 rfl hR_319]
  have g_340 : (0 : Int) ≤ (I_317 o 35).toInt ∧ (I_317 o 35).toInt ≤ 1 := hR_319.at0 ra 35 (by decide)
  have w_341 : I_317 (o + 9) = I0 (o + 9) := (fr_320 (o + 9) (by first | omega | (dsimp only; omega))).trans w_307
  refine ⟨tIn (by omega) (by omega), fun I_342 e_343 => ?_⟩
  have hR_344 : RI R I_342 := hR_319.up ra 22 (by decide) (Or.inl rfl) e_343 (i_lo _) (i_hi _)
  have hf_345 : Fm (fun c => c = o ∨ c = o + 9 ∨ (o + 19 ≤ c ∧ c < o + 25)) I0 I_342 := hf_322.set (by first | rfl | omega | (dsimp only; omega)) e_343
  have t_346 : (I_342 o 3).toInt = (I_317 o 3).toInt := by rw [← e_343, q_u_ne (by omega)]
  have t_347 : (I_342 o 4).toInt = (I_317 o 4).toInt := by rw [← e_343, q_u_ne (by omega)]
  have t_348 : (I_342 o 6).toInt = (I_317 o 6).toInt := by rw [← e_343, q_u_ne (by omega)]
  have t_349 : (I_342 o 7).toInt = (I_317 o 7).toInt := by rw [← e_343, q_u_ne (by omega)]
  have t_350 : (I_342 o 8).toInt = (I_317 o 8).toInt := by rw [← e_343, q_u_ne (by omega)]
  have t_351 : (I_342 o 9).toInt = (I_317 o 9).toInt := by rw [← e_343, q_u_ne (by omega)]
  have t_352 : (I_342 o 35).toInt = (I_317 o 35).toInt := by rw [← e_343, q_u_ne (by omega)]
  have k_353 : MPo I_342 o := u_315.fr (by rw [← e_343, q_u_ne (by omega)]) (by rw [← e_343, q_u_ne (by omega)])
  have k_354 : MTk I_342 o := u_316.fr (by rw [← e_343, q_u_ne (by omega)]) (by rw [← e_343, q_u_ne (by omega)]) (by rw [← e_343, q_u_ne (by omega)])
  have w_355 : I_342 (o + 9) = I0 (o + 9) := by rw [← e_343, q_u_ne (by omega)]; exact w_341
  refine y_Model_isWord hok hw ra hR_344 (fun r_356 u_357 u_358 => ⟨r_356, I_342, L_318, rfl, rfl, ?_⟩)
  have b_359 : 0 ≤ r_356.toInt ∧ r_356.toInt ≤ 1 := u_357.rg
  refine y_Model_must hok hw ra hz14 hz15 hz16 hz17 hz18 hz19 (by first | omega | (intro h; omega) | exact Or.inl rfl | exact Or.inr rfl) k_353 k_354 hR_344 (fun I_370 L_371 hR_372 fr_373 kp_374 u_361 u_362 u_363 u_364 u_365 u_366 u_367 u_368 u_369 => ⟨I_370, L_371, rfl, rfl, ?_⟩)
  have hf_375 : Fm (fun c => c = o ∨ c = o + 9 ∨ (o + 19 ≤ c ∧ c < o + 25)) I0 I_370 := hf_345.call fr_373 (fun c hc => by first | exact hc | (dsimp only at hc ⊢; omega) | omega)
  have t_376 : (I_370 o 3).toInt = (I_342 o 3).toInt := by rw [kp_374 3 rfl]
  have g_377 : (0 : Int) ≤ (I_370 o 4).toInt ∧ (I_370 o 4).toInt ≤ 5 := hR_372.at0 ra 4 (by decide)
  have g_378 : (0 : Int) ≤ (I_370 o 6).toInt ∧ (I_370 o 6).toInt ≤ 1600 := hR_372.at0 ra 6 (by decide)
  have g_379 : (0 : Int) ≤ (I_370 o 7).toInt ∧ (I_370 o 7).toInt ≤ 1601 := hR_372.at0 ra 7 (by decide)
  have g_380 : (0 : Int) ≤ (I_370 o 8).toInt ∧ (I_370 o 8).toInt ≤ 6 := hR_372.at0 ra 8 (by decide)
  have t_381 : (I_370 o 35).toInt = (I_342 o 35).toInt := by rw [kp_374 35 rfl]
  have s_382 : (I0 o 7).toInt ≤ (I_370 o 7).toInt := by omega
  have s_383 : (I0 o 4).toInt ≤ (I_370 o 4).toInt := by omega
  have s_384 : (I_370 o 7).toInt ≤ (I_370 o 3).toInt := by omega
  have s_385 : 7 * (I0 o 7).toInt - (I0 o 8).toInt + (I0 o 4).toInt ≤ 7 * (I_370 o 7).toInt - (I_370 o 8).toInt + (I_370 o 4).toInt := by omega
  clear s_329 s_330 s_331 s_332 t_333 g_334 g_335 g_336 g_337 g_338 t_339 g_340 t_346 t_347 t_348 t_349 t_350 t_351 t_352 t_376 g_377 g_378 g_379 g_380 t_381 u_361 u_362 u_363 u_364 u_366
  have t_386 : (I_370 o 3).toInt = (I0 o 3).toInt := by rw [hZ I_370 3 rfl hR_372]
  have g_387 : (0 : Int) ≤ (I_370 o 3).toInt ∧ (I_370 o 3).toInt ≤ 1600 := hR_372.at0 ra 3 (by decide)
  have g_388 : (0 : Int) ≤ (I_370 o 4).toInt ∧ (I_370 o 4).toInt ≤ 5 := hR_372.at0 ra 4 (by decide)
  have g_389 : (0 : Int) ≤ (I_370 o 6).toInt ∧ (I_370 o 6).toInt ≤ 1600 := hR_372.at0 ra 6 (by decide)
  have g_390 : (0 : Int) ≤ (I_370 o 7).toInt ∧ (I_370 o 7).toInt ≤ 1601 := hR_372.at0 ra 7 (by decide)
  have g_391 : (0 : Int) ≤ (I_370 o 8).toInt ∧ (I_370 o 8).toInt ≤ 6 := hR_372.at0 ra 8 (by decide)
  have t_392 : (I_370 o 35).toInt = (I0 o 35).toInt := by rw [hZ I_370 35 rfl hR_372]
  have g_393 : (0 : Int) ≤ (I_370 o 35).toInt ∧ (I_370 o 35).toInt ≤ 1 := hR_372.at0 ra 35 (by decide)
  have w_394 : I_370 (o + 9) = I0 (o + 9) := (fr_373 (o + 9) (by first | omega | (dsimp only; omega))).trans w_355
  refine y_Model_numeral hok hw ra hz14 hz15 hz16 hz17 hz18 hz19 (by first | omega | (intro h; omega) | exact Or.inl rfl | exact Or.inr rfl) u_368 u_369 hR_372 (fun r_395 I_403 L_404 hR_405 fr_406 kp_407 u_396 u_397 u_398 u_399 u_400 u_401 u_402 => ⟨r_395, I_403, L_404, rfl, rfl, ?_⟩)
  have hf_408 : Fm (fun c => c = o ∨ c = o + 9 ∨ (o + 19 ≤ c ∧ c < o + 25)) I0 I_403 := hf_375.call fr_406 (fun c hc => by first | exact hc | (dsimp only at hc ⊢; omega) | omega)
  have t_409 : (I_403 o 3).toInt = (I_370 o 3).toInt := by rw [kp_407 3 rfl]
  have g_410 : (0 : Int) ≤ (I_403 o 4).toInt ∧ (I_403 o 4).toInt ≤ 5 := hR_405.at0 ra 4 (by decide)
  have g_411 : (0 : Int) ≤ (I_403 o 6).toInt ∧ (I_403 o 6).toInt ≤ 1600 := hR_405.at0 ra 6 (by decide)
  have g_412 : (0 : Int) ≤ (I_403 o 7).toInt ∧ (I_403 o 7).toInt ≤ 1601 := hR_405.at0 ra 7 (by decide)
  have g_413 : (0 : Int) ≤ (I_403 o 8).toInt ∧ (I_403 o 8).toInt ≤ 6 := hR_405.at0 ra 8 (by decide)
  have t_414 : (I_403 o 35).toInt = (I_370 o 35).toInt := by rw [kp_407 35 rfl]
  have s_415 : (I0 o 7).toInt ≤ (I_403 o 7).toInt := by omega
  have s_416 : (I0 o 4).toInt ≤ (I_403 o 4).toInt := by omega
  have s_417 : (I_403 o 7).toInt ≤ (I_403 o 3).toInt := by omega
  have s_418 : 7 * (I0 o 7).toInt - (I0 o 8).toInt + (I0 o 4).toInt ≤ 7 * (I_403 o 7).toInt - (I_403 o 8).toInt + (I_403 o 4).toInt := by omega
  clear s_382 s_383 s_384 s_385 t_386 g_387 g_388 g_389 g_390 g_391 t_392 g_393 t_409 g_410 g_411 g_412 g_413 t_414 u_396 u_397 u_398 u_399
  have t_419 : (I_403 o 3).toInt = (I0 o 3).toInt := by rw [hZ I_403 3 rfl hR_405]
  have g_420 : (0 : Int) ≤ (I_403 o 3).toInt ∧ (I_403 o 3).toInt ≤ 1600 := hR_405.at0 ra 3 (by decide)
  have g_421 : (0 : Int) ≤ (I_403 o 4).toInt ∧ (I_403 o 4).toInt ≤ 5 := hR_405.at0 ra 4 (by decide)
  have g_422 : (0 : Int) ≤ (I_403 o 6).toInt ∧ (I_403 o 6).toInt ≤ 1600 := hR_405.at0 ra 6 (by decide)
  have g_423 : (0 : Int) ≤ (I_403 o 7).toInt ∧ (I_403 o 7).toInt ≤ 1601 := hR_405.at0 ra 7 (by decide)
  have g_424 : (0 : Int) ≤ (I_403 o 8).toInt ∧ (I_403 o 8).toInt ≤ 6 := hR_405.at0 ra 8 (by decide)
  have t_425 : (I_403 o 35).toInt = (I0 o 35).toInt := by rw [hZ I_403 35 rfl hR_405]
  have g_426 : (0 : Int) ≤ (I_403 o 35).toInt ∧ (I_403 o 35).toInt ≤ 1 := hR_405.at0 ra 35 (by decide)
  have w_427 : I_403 (o + 9) = I0 (o + 9) := (fr_406 (o + 9) (by first | omega | (dsimp only; omega))).trans w_394
  refine ⟨tIn (by omega) (by omega), fun I_428 e_429 => ?_⟩
  have hR_430 : RI R I_428 := hR_405.up ra 23 (by decide) (Or.inl rfl) e_429 (i_lo _) (i_hi _)
  have hf_431 : Fm (fun c => c = o ∨ c = o + 9 ∨ (o + 19 ≤ c ∧ c < o + 25)) I0 I_428 := hf_408.set (by first | rfl | omega | (dsimp only; omega)) e_429
  have t_432 : (I_428 o 3).toInt = (I_403 o 3).toInt := by rw [← e_429, q_u_ne (by omega)]
  have t_433 : (I_428 o 4).toInt = (I_403 o 4).toInt := by rw [← e_429, q_u_ne (by omega)]
  have t_434 : (I_428 o 6).toInt = (I_403 o 6).toInt := by rw [← e_429, q_u_ne (by omega)]
  have t_435 : (I_428 o 7).toInt = (I_403 o 7).toInt := by rw [← e_429, q_u_ne (by omega)]
  have t_436 : (I_428 o 8).toInt = (I_403 o 8).toInt := by rw [← e_429, q_u_ne (by omega)]
  have t_437 : (I_428 o 9).toInt = (I_403 o 9).toInt := by rw [← e_429, q_u_ne (by omega)]
  have t_438 : (I_428 o 35).toInt = (I_403 o 35).toInt := by rw [← e_429, q_u_ne (by omega)]
  have k_439 : MPo I_428 o := u_401.fr (by rw [← e_429, q_u_ne (by omega)]) (by rw [← e_429, q_u_ne (by omega)])
  have k_440 : MTk I_428 o := u_402.fr (by rw [← e_429, q_u_ne (by omega)]) (by rw [← e_429, q_u_ne (by omega)]) (by rw [← e_429, q_u_ne (by omega)])
  have w_441 : I_428 (o + 9) = I0 (o + 9) := by rw [← e_429, q_u_ne (by omega)]; exact w_427
  have l_442 : (1668248436 : Int32).toInt = 1668248436 := rfl
  refine y_Model_isWord hok hw ra hR_430 (fun r_443 u_444 u_445 => ⟨r_443, I_428, L_404, rfl, rfl, ?_⟩)
  have b_446 : 0 ≤ r_443.toInt ∧ r_443.toInt ≤ 1 := u_444.rg
  refine y_Model_must hok hw ra hz14 hz15 hz16 hz17 hz18 hz19 (by first | omega | (intro h; omega) | exact Or.inl rfl | exact Or.inr rfl) k_439 k_440 hR_430 (fun I_457 L_458 hR_459 fr_460 kp_461 u_448 u_449 u_450 u_451 u_452 u_453 u_454 u_455 u_456 => ⟨I_457, L_458, rfl, rfl, ?_⟩)
  have hf_462 : Fm (fun c => c = o ∨ c = o + 9 ∨ (o + 19 ≤ c ∧ c < o + 25)) I0 I_457 := hf_431.call fr_460 (fun c hc => by first | exact hc | (dsimp only at hc ⊢; omega) | omega)
  have t_463 : (I_457 o 3).toInt = (I_428 o 3).toInt := by rw [kp_461 3 rfl]
  have g_464 : (0 : Int) ≤ (I_457 o 4).toInt ∧ (I_457 o 4).toInt ≤ 5 := hR_459.at0 ra 4 (by decide)
  have g_465 : (0 : Int) ≤ (I_457 o 6).toInt ∧ (I_457 o 6).toInt ≤ 1600 := hR_459.at0 ra 6 (by decide)
  have g_466 : (0 : Int) ≤ (I_457 o 7).toInt ∧ (I_457 o 7).toInt ≤ 1601 := hR_459.at0 ra 7 (by decide)
  have g_467 : (0 : Int) ≤ (I_457 o 8).toInt ∧ (I_457 o 8).toInt ≤ 6 := hR_459.at0 ra 8 (by decide)
  have t_468 : (I_457 o 35).toInt = (I_428 o 35).toInt := by rw [kp_461 35 rfl]
  have s_469 : (I0 o 7).toInt ≤ (I_457 o 7).toInt := by omega
  have s_470 : (I0 o 4).toInt ≤ (I_457 o 4).toInt := by omega
  have s_471 : (I_457 o 7).toInt ≤ (I_457 o 3).toInt := by omega
  have s_472 : 7 * (I0 o 7).toInt - (I0 o 8).toInt + (I0 o 4).toInt ≤ 7 * (I_457 o 7).toInt - (I_457 o 8).toInt + (I_457 o 4).toInt := by omega
  clear s_415 s_416 s_417 s_418 t_419 g_420 g_421 g_422 g_423 g_424 t_425 g_426 t_432 t_433 t_434 t_435 t_436 t_437 t_438 t_463 g_464 g_465 g_466 g_467 t_468 u_448 u_449 u_450 u_451 u_453
  have t_473 : (I_457 o 3).toInt = (I0 o 3).toInt := by rw [hZ I_457 3 rfl hR_459]
  have g_474 : (0 : Int) ≤ (I_457 o 3).toInt ∧ (I_457 o 3).toInt ≤ 1600 := hR_459.at0 ra 3 (by decide)
  have g_475 : (0 : Int) ≤ (I_457 o 4).toInt ∧ (I_457 o 4).toInt ≤ 5 := hR_459.at0 ra 4 (by decide)
  have g_476 : (0 : Int) ≤ (I_457 o 6).toInt ∧ (I_457 o 6).toInt ≤ 1600 := hR_459.at0 ra 6 (by decide)
  have g_477 : (0 : Int) ≤ (I_457 o 7).toInt ∧ (I_457 o 7).toInt ≤ 1601 := hR_459.at0 ra 7 (by decide)
  have g_478 : (0 : Int) ≤ (I_457 o 8).toInt ∧ (I_457 o 8).toInt ≤ 6 := hR_459.at0 ra 8 (by decide)
  have t_479 : (I_457 o 35).toInt = (I0 o 35).toInt := by rw [hZ I_457 35 rfl hR_459]
  have g_480 : (0 : Int) ≤ (I_457 o 35).toInt ∧ (I_457 o 35).toInt ≤ 1 := hR_459.at0 ra 35 (by decide)
  have w_481 : I_457 (o + 9) = I0 (o + 9) := (fr_460 (o + 9) (by first | omega | (dsimp only; omega))).trans w_441
  have l_482 : (99 : Int32).toInt = 99 := rfl
  refine y_Model_numeral hok hw ra hz14 hz15 hz16 hz17 hz18 hz19 (by first | omega | (intro h; omega) | exact Or.inl rfl | exact Or.inr rfl) u_455 u_456 hR_459 (fun r_483 I_491 L_492 hR_493 fr_494 kp_495 u_484 u_485 u_486 u_487 u_488 u_489 u_490 => ⟨r_483, I_491, L_492, rfl, rfl, ?_⟩)
  have hf_496 : Fm (fun c => c = o ∨ c = o + 9 ∨ (o + 19 ≤ c ∧ c < o + 25)) I0 I_491 := hf_462.call fr_494 (fun c hc => by first | exact hc | (dsimp only at hc ⊢; omega) | omega)
  have t_497 : (I_491 o 3).toInt = (I_457 o 3).toInt := by rw [kp_495 3 rfl]
  have g_498 : (0 : Int) ≤ (I_491 o 4).toInt ∧ (I_491 o 4).toInt ≤ 5 := hR_493.at0 ra 4 (by decide)
  have g_499 : (0 : Int) ≤ (I_491 o 6).toInt ∧ (I_491 o 6).toInt ≤ 1600 := hR_493.at0 ra 6 (by decide)
  have g_500 : (0 : Int) ≤ (I_491 o 7).toInt ∧ (I_491 o 7).toInt ≤ 1601 := hR_493.at0 ra 7 (by decide)
  have g_501 : (0 : Int) ≤ (I_491 o 8).toInt ∧ (I_491 o 8).toInt ≤ 6 := hR_493.at0 ra 8 (by decide)
  have t_502 : (I_491 o 35).toInt = (I_457 o 35).toInt := by rw [kp_495 35 rfl]
  have s_503 : (I0 o 7).toInt ≤ (I_491 o 7).toInt := by omega
  have s_504 : (I0 o 4).toInt ≤ (I_491 o 4).toInt := by omega
  have s_505 : (I_491 o 7).toInt ≤ (I_491 o 3).toInt := by omega
  have s_506 : 7 * (I0 o 7).toInt - (I0 o 8).toInt + (I0 o 4).toInt ≤ 7 * (I_491 o 7).toInt - (I_491 o 8).toInt + (I_491 o 4).toInt := by omega
  clear s_469 s_470 s_471 s_472 t_473 g_474 g_475 g_476 g_477 g_478 t_479 g_480 t_497 g_498 g_499 g_500 g_501 t_502 u_484 u_485 u_486 u_487
  have t_507 : (I_491 o 3).toInt = (I0 o 3).toInt := by rw [hZ I_491 3 rfl hR_493]
  have g_508 : (0 : Int) ≤ (I_491 o 3).toInt ∧ (I_491 o 3).toInt ≤ 1600 := hR_493.at0 ra 3 (by decide)
  have g_509 : (0 : Int) ≤ (I_491 o 4).toInt ∧ (I_491 o 4).toInt ≤ 5 := hR_493.at0 ra 4 (by decide)
  have g_510 : (0 : Int) ≤ (I_491 o 6).toInt ∧ (I_491 o 6).toInt ≤ 1600 := hR_493.at0 ra 6 (by decide)
  have g_511 : (0 : Int) ≤ (I_491 o 7).toInt ∧ (I_491 o 7).toInt ≤ 1601 := hR_493.at0 ra 7 (by decide)
  have g_512 : (0 : Int) ≤ (I_491 o 8).toInt ∧ (I_491 o 8).toInt ≤ 6 := hR_493.at0 ra 8 (by decide)
  have t_513 : (I_491 o 35).toInt = (I0 o 35).toInt := by rw [hZ I_491 35 rfl hR_493]
  have g_514 : (0 : Int) ≤ (I_491 o 35).toInt ∧ (I_491 o 35).toInt ≤ 1 := hR_493.at0 ra 35 (by decide)
  have w_515 : I_491 (o + 9) = I0 (o + 9) := (fr_494 (o + 9) (by first | omega | (dsimp only; omega))).trans w_481
  refine ⟨tIn (by omega) (by omega), fun I_516 e_517 => ?_⟩
  have hR_518 : RI R I_516 := hR_493.up ra 24 (by decide) (Or.inl rfl) e_517 (i_lo _) (i_hi _)
  have hf_519 : Fm (fun c => c = o ∨ c = o + 9 ∨ (o + 19 ≤ c ∧ c < o + 25)) I0 I_516 := hf_496.set (by first | rfl | omega | (dsimp only; omega)) e_517
  have t_520 : (I_516 o 3).toInt = (I_491 o 3).toInt := by rw [← e_517, q_u_ne (by omega)]
  have t_521 : (I_516 o 4).toInt = (I_491 o 4).toInt := by rw [← e_517, q_u_ne (by omega)]
  have t_522 : (I_516 o 6).toInt = (I_491 o 6).toInt := by rw [← e_517, q_u_ne (by omega)]
  have t_523 : (I_516 o 7).toInt = (I_491 o 7).toInt := by rw [← e_517, q_u_ne (by omega)]
  have t_524 : (I_516 o 8).toInt = (I_491 o 8).toInt := by rw [← e_517, q_u_ne (by omega)]
  have t_525 : (I_516 o 9).toInt = (I_491 o 9).toInt := by rw [← e_517, q_u_ne (by omega)]
  have t_526 : (I_516 o 35).toInt = (I_491 o 35).toInt := by rw [← e_517, q_u_ne (by omega)]
  have k_527 : MPo I_516 o := u_489.fr (by rw [← e_517, q_u_ne (by omega)]) (by rw [← e_517, q_u_ne (by omega)])
  have k_528 : MTk I_516 o := u_490.fr (by rw [← e_517, q_u_ne (by omega)]) (by rw [← e_517, q_u_ne (by omega)]) (by rw [← e_517, q_u_ne (by omega)])
  have w_529 : I_516 (o + 9) = I0 (o + 9) := by rw [← e_517, q_u_ne (by omega)]; exact w_515
  refine y_Model_isGood hok hw ra hR_518 (fun r_530 u_531 u_532 u_533 => ⟨r_530, I_516, L_492, rfl, rfl, ?_⟩)
  have b_534 : 0 ≤ r_530.toInt ∧ r_530.toInt ≤ 1 := u_531.rg
  refine ⟨fun c_535 => ?_, fun c_535 => ?_⟩
  · have d_536 := iEq c_535
    have i_537 := u_533 (by omega)
    exact (hp _ _ hR_518 hf_519 (by first | omega | (intro h; omega) | exact Or.inl rfl | exact Or.inr rfl) (by first | omega | (intro h; omega) | exact Or.inl rfl | exact Or.inr rfl) (by first | omega | (intro h; omega) | exact Or.inl rfl | exact Or.inr rfl) (by first | omega | (intro h; omega) | exact Or.inl rfl | exact Or.inr rfl) k_527 k_528)
  · have d_538 := iNe c_535
    have i_539 := u_532 (by omega)
    have g_540 : (0 : Int) ≤ (I_516 o 35).toInt ∧ (I_516 o 35).toInt ≤ 1 := hR_518.at0 ra 35 (by decide)
    have rk : (I_516 (o + 9) (I_516 o 35 : Int32).toNatClampNeg).toInt = (I0 (o + 9) (I0 o 35 : Int32).toNatClampNeg).toInt := by rw [w_529, hZ I_516 35 rfl hR_518]
    refine ⟨tIn (by omega) (by omega), ?_⟩
    have g_541 : (0 : Int) ≤ (I_516 (o + 9) ((I_516 o 35) : Int32).toNatClampNeg).toInt ∧ (I_516 (o + 9) ((I_516 o 35) : Int32).toNatClampNeg).toInt ≤ 5 := hR_518.at ra 9 _ (by decide)
    have a_542 : ((I_516 (o + 9) ((I_516 o 35) : Int32).toNatClampNeg) + 1).toInt = (I_516 (o + 9) ((I_516 o 35) : Int32).toNatClampNeg).toInt + (1 : Int32).toInt := tAdd (by omega) (by omega)
    refine ⟨tIn (by omega) (by omega), fun I_543 e_544 => ?_⟩
    have hR_545 : RI R I_543 := hR_518.up ra 9 (by decide) (Or.inl rfl) e_544 (show (0 : Int) ≤ ((I_516 (o + 9) ((I_516 o 35) : Int32).toNatClampNeg) + 1).toInt by omega) (show ((I_516 (o + 9) ((I_516 o 35) : Int32).toNatClampNeg) + 1).toInt ≤ (5 : Int) by omega)
    have hf_546 : Fm (fun c => c = o ∨ c = o + 9 ∨ (o + 19 ≤ c ∧ c < o + 25)) I0 I_543 := hf_519.set (by first | rfl | omega | (dsimp only; omega)) e_544
    have t_547 : (I_543 o 3).toInt = (I_516 o 3).toInt := by rw [← e_544, q_u_ne (by omega)]
    have t_548 : (I_543 o 4).toInt = (I_516 o 4).toInt := by rw [← e_544, q_u_ne (by omega)]
    have t_549 : (I_543 o 6).toInt = (I_516 o 6).toInt := by rw [← e_544, q_u_ne (by omega)]
    have t_550 : (I_543 o 7).toInt = (I_516 o 7).toInt := by rw [← e_544, q_u_ne (by omega)]
    have t_551 : (I_543 o 8).toInt = (I_516 o 8).toInt := by rw [← e_544, q_u_ne (by omega)]
    have t_552 : (I_543 o 9).toInt = (I_516 o 9).toInt := by rw [← e_544, q_u_ne (by omega)]
    have t_553 : (I_543 o 35).toInt = (I_516 o 35).toInt := by rw [← e_544, q_u_ne (by omega)]
    have k_554 : MPo I_543 o := k_527.fr (by rw [← e_544, q_u_ne (by omega)]) (by rw [← e_544, q_u_ne (by omega)])
    have k_555 : MTk I_543 o := k_528.fr (by rw [← e_544, q_u_ne (by omega)]) (by rw [← e_544, q_u_ne (by omega)]) (by rw [← e_544, q_u_ne (by omega)])
    exact (hp _ _ hR_545 hf_546 (by first | omega | (intro h; omega) | exact Or.inl rfl | exact Or.inr rfl) (by first | omega | (intro h; omega) | exact Or.inl rfl | exact Or.inr rfl) (by first | omega | (intro h; omega) | exact Or.inl rfl | exact Or.inr rfl) (by first | omega | (intro h; omega) | exact Or.inl rfl | exact Or.inr rfl) k_554 k_555)
theorem y_Model_readTown {D : va_G} {cA : FieldType → ClassId} {b : Nat} {E : State → Prop} {R : qRg} {o n : Nat} {sh : Nat → qC} {Rf : Nat → Nat → Option Nat} {I0 : Nat → Nat → Int32} {L0 : Nat → Nat → Int64} {post : Option Value → qS → Prop} (hok : q_ok (qGG D cA b E)) (hw : WfModel (qGG D cA b E) n sh Rf o) (ra : RAModel R o) (hz14 : R.2 14 = true) (hz15 : R.2 15 = true) (hz16 : R.2 16 = true) (hz17 : R.2 17 = true) (hz18 : R.2 18 = true) (hz19 : R.2 19 = true) (hq0 : (I0 o 7).toInt ≤ (I0 o 3).toInt) (hq1 : (I0 (o + 9) (I0 o 35 : Int32).toNatClampNeg).toInt ≤ 4) (hq2 : MPo I0 o) (hq3 : MTk I0 o) (hR : RI R I0) (hp : ∀ (I' : Nat → Nat → Int32) (L' : Nat → Nat → Int64), RI R I' → Fm (fun c => c = o ∨ c = o + 9 ∨ (o + 19 ≤ c ∧ c < o + 25)) I0 I' → Kp wModel_readTown I0 I' o → ((I' o 7).toInt ≤ (I' o 3).toInt) → ((I0 o 7).toInt ≤ (I' o 7).toInt) → ((I0 o 4).toInt ≤ (I' o 4).toInt) → (7 * (I0 o 7).toInt - (I0 o 8).toInt + (I0 o 4).toInt ≤ 7 * (I' o 7).toInt - (I' o 8).toInt + (I' o 4).toInt) → (MPo I' o) → (MTk I' o) → post none (n, sh, Rf, I', L')) : Ev (qGG D cA b E) mModel_readTown 5 (0, 0) 0 (lv_args 0 [.ref o]) [] (n, sh, Rf, I0, L0) post :=
  yc_Model_readTown (R := fzR R I0 o wModel_readTown) hok hw (fzA ra hR _) (fzT hz14 rfl) (fzT hz15 rfl) (fzT hz16 rfl) (fzT hz17 rfl) (fzT hz18 rfl) (fzT hz19 rfl) fzZ (fzI hR) hq0 hq1 hq2 hq3 (fzI hR) (fun I' L' h1 h2 u0 u1 u2 u3 u4 u5 => hp I' L' (fzB hR h1) h2 (fzP h1) u0 u1 u2 u3 u4 u5)
