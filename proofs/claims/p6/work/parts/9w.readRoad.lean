/-! Safety of the reference, the lines of a LAND: by program (spec.py). -/
def wModel_readRoad : Nat → Bool := fun j => Nat.beq j 14 || Nat.beq j 15 || Nat.beq j 16 || Nat.beq j 17 || Nat.beq j 18 || Nat.beq j 19 || false
set_option maxHeartbeats 4000000 in
set_option maxRecDepth 20000 in
theorem yc_Model_readRoad {D : va_G} {cA : FieldType → ClassId} {b : Nat} {E : State → Prop} {R : qRg} {o n : Nat} {sh : Nat → qC} {Rf : Nat → Nat → Option Nat} {I0 : Nat → Nat → Int32} {L0 : Nat → Nat → Int64} {post : Option Value → qS → Prop} (hok : q_ok (qGG D cA b E)) (hw : WfModel (qGG D cA b E) n sh Rf o) (ra : RAModel R o) (hz14 : R.2 14 = true) (hz15 : R.2 15 = true) (hz16 : R.2 16 = true) (hz17 : R.2 17 = true) (hz18 : R.2 18 = true) (hz19 : R.2 19 = true) (hZ : Fz R I0 o wModel_readRoad) (hR0 : RI R I0) (hq0 : (I0 o 7).toInt ≤ (I0 o 3).toInt) (hq1 : (I0 (o + 6) (I0 o 35 : Int32).toNatClampNeg).toInt ≤ 23) (hq2 : MPo I0 o) (hq3 : MTk I0 o) (hR : RI R I0) (hp : ∀ (I' : Nat → Nat → Int32) (L' : Nat → Nat → Int64), RI R I' → Fm (fun c => c = o ∨ c = o + 6 ∨ (o + 10 ≤ c ∧ c < o + 13)) I0 I' → ((I' o 7).toInt ≤ (I' o 3).toInt) → ((I0 o 7).toInt ≤ (I' o 7).toInt) → ((I0 o 4).toInt ≤ (I' o 4).toInt) → (7 * (I0 o 7).toInt - (I0 o 8).toInt + (I0 o 4).toInt ≤ 7 * (I' o 7).toInt - (I' o 8).toInt + (I' o 4).toInt) → (MPo I' o) → (MTk I' o) → post none (n, sh, Rf, I', L')) : Ev (qGG D cA b E) mModel_readRoad 5 (0, 0) 0 (lv_args 0 [.ref o]) [] (n, sh, Rf, I0, L0) post := by
  have hf : Fm (fun c => c = o ∨ c = o + 6 ∨ (o + 10 ≤ c ∧ c < o + 13)) I0 I0 := Fm.rf
  have g_1 : (0 : Int) ≤ (I0 o 3).toInt ∧ (I0 o 3).toInt ≤ 1600 := hR.at0 ra 3 (by decide)
  have g_2 : (0 : Int) ≤ (I0 o 4).toInt ∧ (I0 o 4).toInt ≤ 5 := hR.at0 ra 4 (by decide)
  have g_3 : (0 : Int) ≤ (I0 o 6).toInt ∧ (I0 o 6).toInt ≤ 1600 := hR.at0 ra 6 (by decide)
  have g_4 : (0 : Int) ≤ (I0 o 7).toInt ∧ (I0 o 7).toInt ≤ 1601 := hR.at0 ra 7 (by decide)
  have g_5 : (0 : Int) ≤ (I0 o 8).toInt ∧ (I0 o 8).toInt ≤ 6 := hR.at0 ra 8 (by decide)
  refine sModel_readRoad_0 o n sh Rf I0 L0 post  hok hw ?_
  unfold fModel_readRoad_0
  have g_6 : (0 : Int) ≤ (I0 o 35).toInt ∧ (I0 o 35).toInt ≤ 1 := hR.at0 ra 35 (by decide)
  have l_7 : (24 : Int32).toInt = 24 := rfl
  have a_8 : (24 * (I0 o 35)).toInt = 24 * (I0 o 35).toInt := tMulL rfl (by omega) (by omega)
  have g_9 : (0 : Int) ≤ (I0 o 35).toInt ∧ (I0 o 35).toInt ≤ 1 := hR.at0 ra 35 (by decide)
  refine ⟨tIn (by omega) (by omega), ?_⟩
  have g_10 : (0 : Int) ≤ (I0 (o + 6) ((I0 o 35) : Int32).toNatClampNeg).toInt ∧ (I0 (o + 6) ((I0 o 35) : Int32).toNatClampNeg).toInt ≤ 24 := hR.at ra 6 _ (by decide)
  have a_11 : ((24 * (I0 o 35)) + (I0 (o + 6) ((I0 o 35) : Int32).toNatClampNeg)).toInt = (24 * (I0 o 35)).toInt + (I0 (o + 6) ((I0 o 35) : Int32).toNatClampNeg).toInt := tAdd (by omega) (by omega)
  refine y_Model_point hok hw ra hz14 hz15 hz16 hz17 hz18 hz19 (by first | omega | (intro h; omega) | exact Or.inl rfl | exact Or.inr rfl) hq2 hq3 hR (fun r_12 I_20 L_21 hR_22 fr_23 kp_24 u_13 u_14 u_15 u_16 u_17 u_18 u_19 => ⟨r_12, I_20, L_21, rfl, rfl, ?_⟩)
  have hf_25 : Fm (fun c => c = o ∨ c = o + 6 ∨ (o + 10 ≤ c ∧ c < o + 13)) I0 I_20 := hf.call fr_23 (fun c hc => by first | exact hc | (dsimp only at hc ⊢; omega) | omega)
  have t_26 : (I_20 o 3).toInt = (I0 o 3).toInt := by rw [kp_24 3 rfl]
  have g_27 : (0 : Int) ≤ (I_20 o 4).toInt ∧ (I_20 o 4).toInt ≤ 5 := hR_22.at0 ra 4 (by decide)
  have g_28 : (0 : Int) ≤ (I_20 o 6).toInt ∧ (I_20 o 6).toInt ≤ 1600 := hR_22.at0 ra 6 (by decide)
  have g_29 : (0 : Int) ≤ (I_20 o 7).toInt ∧ (I_20 o 7).toInt ≤ 1601 := hR_22.at0 ra 7 (by decide)
  have g_30 : (0 : Int) ≤ (I_20 o 8).toInt ∧ (I_20 o 8).toInt ≤ 6 := hR_22.at0 ra 8 (by decide)
  have t_31 : (I_20 o 35).toInt = (I0 o 35).toInt := by rw [kp_24 35 rfl]
  have s_32 : (I0 o 7).toInt ≤ (I_20 o 7).toInt := by omega
  have s_33 : (I0 o 4).toInt ≤ (I_20 o 4).toInt := by omega
  have s_34 : (I_20 o 7).toInt ≤ (I_20 o 3).toInt := by omega
  have s_35 : 7 * (I0 o 7).toInt - (I0 o 8).toInt + (I0 o 4).toInt ≤ 7 * (I_20 o 7).toInt - (I_20 o 8).toInt + (I_20 o 4).toInt := by omega
  clear t_26 g_27 g_28 g_29 g_30 t_31 u_14 u_15 u_16 u_17
  have t_36 : (I_20 o 3).toInt = (I0 o 3).toInt := by rw [hZ I_20 3 rfl hR_22]
  have g_37 : (0 : Int) ≤ (I_20 o 3).toInt ∧ (I_20 o 3).toInt ≤ 1600 := hR_22.at0 ra 3 (by decide)
  have g_38 : (0 : Int) ≤ (I_20 o 4).toInt ∧ (I_20 o 4).toInt ≤ 5 := hR_22.at0 ra 4 (by decide)
  have g_39 : (0 : Int) ≤ (I_20 o 6).toInt ∧ (I_20 o 6).toInt ≤ 1600 := hR_22.at0 ra 6 (by decide)
  have g_40 : (0 : Int) ≤ (I_20 o 7).toInt ∧ (I_20 o 7).toInt ≤ 1601 := hR_22.at0 ra 7 (by decide)
  have g_41 : (0 : Int) ≤ (I_20 o 8).toInt ∧ (I_20 o 8).toInt ≤ 6 := hR_22.at0 ra 8 (by decide)
  have t_42 : (I_20 o 35).toInt = (I0 o 35).toInt := by rw [hZ I_20 35 rfl hR_22]
  have g_43 : (0 : Int) ≤ (I_20 o 35).toInt ∧ (I_20 o 35).toInt ≤ 1 := hR_22.at0 ra 35 (by decide)
  have w_44 : I_20 (o + 6) = I0 (o + 6) := (fr_23 (o + 6) (by first | omega | (dsimp only; omega)))
  refine ⟨tIn (by omega) (by omega), fun I_45 e_46 => ?_⟩
  have hR_47 : RI R I_45 := hR_22.up ra 10 (by decide) (Or.inl rfl) e_46 (show (0 : Int) ≤ r_12.toInt by omega) (show r_12.toInt ≤ (15 : Int) by omega)
  have hf_48 : Fm (fun c => c = o ∨ c = o + 6 ∨ (o + 10 ≤ c ∧ c < o + 13)) I0 I_45 := hf_25.set (by first | rfl | omega | (dsimp only; omega)) e_46
  have t_49 : (I_45 o 3).toInt = (I_20 o 3).toInt := by rw [← e_46, q_u_ne (by omega)]
  have t_50 : (I_45 o 4).toInt = (I_20 o 4).toInt := by rw [← e_46, q_u_ne (by omega)]
  have t_51 : (I_45 o 6).toInt = (I_20 o 6).toInt := by rw [← e_46, q_u_ne (by omega)]
  have t_52 : (I_45 o 7).toInt = (I_20 o 7).toInt := by rw [← e_46, q_u_ne (by omega)]
  have t_53 : (I_45 o 8).toInt = (I_20 o 8).toInt := by rw [← e_46, q_u_ne (by omega)]
  have t_54 : (I_45 o 9).toInt = (I_20 o 9).toInt := by rw [← e_46, q_u_ne (by omega)]
  have t_55 : (I_45 o 35).toInt = (I_20 o 35).toInt := by rw [← e_46, q_u_ne (by omega)]
  have k_56 : MPo I_45 o := u_18.fr (by rw [← e_46, q_u_ne (by omega)]) (by rw [← e_46, q_u_ne (by omega)])
  have k_57 : MTk I_45 o := u_19.fr (by rw [← e_46, q_u_ne (by omega)]) (by rw [← e_46, q_u_ne (by omega)]) (by rw [← e_46, q_u_ne (by omega)])
  have w_58 : I_45 (o + 6) = I0 (o + 6) := by rw [← e_46, q_u_ne (by omega)]; exact w_44
  refine y_Model_isGood hok hw ra hR_47 (fun r_59 u_60 u_61 u_62 => ⟨r_59, I_45, L_21, rfl, rfl, ?_⟩)
  have b_63 : 0 ≤ r_59.toInt ∧ r_59.toInt ≤ 1 := u_60.rg
  have l_64 : (0 : Int32).toInt = 0 := rfl
  refine ⟨fun c_65 => ?_, fun c_65 => ?_⟩
  · have d_66 := iEq c_65
    have i_67 := u_62 (by omega)
    unfold fModel_readRoad_65
    refine y_Model_point hok hw ra hz14 hz15 hz16 hz17 hz18 hz19 (by first | omega | (intro h; omega) | exact Or.inl rfl | exact Or.inr rfl) k_56 k_57 hR_47 (fun r_68 I_76 L_77 hR_78 fr_79 kp_80 u_69 u_70 u_71 u_72 u_73 u_74 u_75 => ⟨r_68, I_76, L_77, rfl, rfl, ?_⟩)
    have hf_81 : Fm (fun c => c = o ∨ c = o + 6 ∨ (o + 10 ≤ c ∧ c < o + 13)) I0 I_76 := hf_48.call fr_79 (fun c hc => by first | exact hc | (dsimp only at hc ⊢; omega) | omega)
    have t_82 : (I_76 o 3).toInt = (I_45 o 3).toInt := by rw [kp_80 3 rfl]
    have g_83 : (0 : Int) ≤ (I_76 o 4).toInt ∧ (I_76 o 4).toInt ≤ 5 := hR_78.at0 ra 4 (by decide)
    have g_84 : (0 : Int) ≤ (I_76 o 6).toInt ∧ (I_76 o 6).toInt ≤ 1600 := hR_78.at0 ra 6 (by decide)
    have g_85 : (0 : Int) ≤ (I_76 o 7).toInt ∧ (I_76 o 7).toInt ≤ 1601 := hR_78.at0 ra 7 (by decide)
    have g_86 : (0 : Int) ≤ (I_76 o 8).toInt ∧ (I_76 o 8).toInt ≤ 6 := hR_78.at0 ra 8 (by decide)
    have t_87 : (I_76 o 35).toInt = (I_45 o 35).toInt := by rw [kp_80 35 rfl]
    have s_88 : (I0 o 7).toInt ≤ (I_76 o 7).toInt := by omega
    have s_89 : (I0 o 4).toInt ≤ (I_76 o 4).toInt := by omega
    have s_90 : (I_76 o 7).toInt ≤ (I_76 o 3).toInt := by omega
    have s_91 : 7 * (I0 o 7).toInt - (I0 o 8).toInt + (I0 o 4).toInt ≤ 7 * (I_76 o 7).toInt - (I_76 o 8).toInt + (I_76 o 4).toInt := by omega
    clear s_32 s_33 s_34 s_35 t_36 g_37 g_38 g_39 g_40 g_41 t_42 g_43 t_49 t_50 t_51 t_52 t_53 t_54 t_55 t_82 g_83 g_84 g_85 g_86 t_87 u_70 u_71 u_72 u_73
    have t_92 : (I_76 o 3).toInt = (I0 o 3).toInt := by rw [hZ I_76 3 rfl hR_78]
    have g_93 : (0 : Int) ≤ (I_76 o 3).toInt ∧ (I_76 o 3).toInt ≤ 1600 := hR_78.at0 ra 3 (by decide)
    have g_94 : (0 : Int) ≤ (I_76 o 4).toInt ∧ (I_76 o 4).toInt ≤ 5 := hR_78.at0 ra 4 (by decide)
    have g_95 : (0 : Int) ≤ (I_76 o 6).toInt ∧ (I_76 o 6).toInt ≤ 1600 := hR_78.at0 ra 6 (by decide)
    have g_96 : (0 : Int) ≤ (I_76 o 7).toInt ∧ (I_76 o 7).toInt ≤ 1601 := hR_78.at0 ra 7 (by decide)
    have g_97 : (0 : Int) ≤ (I_76 o 8).toInt ∧ (I_76 o 8).toInt ≤ 6 := hR_78.at0 ra 8 (by decide)
    have t_98 : (I_76 o 35).toInt = (I0 o 35).toInt := by rw [hZ I_76 35 rfl hR_78]
    have g_99 : (0 : Int) ≤ (I_76 o 35).toInt ∧ (I_76 o 35).toInt ≤ 1 := hR_78.at0 ra 35 (by decide)
    have w_100 : I_76 (o + 6) = I0 (o + 6) := (fr_79 (o + 6) (by first | omega | (dsimp only; omega))).trans w_58
    refine ⟨tIn (by omega) (by omega), fun I_101 e_102 => ?_⟩
    have hR_103 : RI R I_101 := hR_78.up ra 11 (by decide) (Or.inl rfl) e_102 (show (0 : Int) ≤ r_68.toInt by omega) (show r_68.toInt ≤ (15 : Int) by omega)
    have hf_104 : Fm (fun c => c = o ∨ c = o + 6 ∨ (o + 10 ≤ c ∧ c < o + 13)) I0 I_101 := hf_81.set (by first | rfl | omega | (dsimp only; omega)) e_102
    have t_105 : (I_101 o 3).toInt = (I_76 o 3).toInt := by rw [← e_102, q_u_ne (by omega)]
    have t_106 : (I_101 o 4).toInt = (I_76 o 4).toInt := by rw [← e_102, q_u_ne (by omega)]
    have t_107 : (I_101 o 6).toInt = (I_76 o 6).toInt := by rw [← e_102, q_u_ne (by omega)]
    have t_108 : (I_101 o 7).toInt = (I_76 o 7).toInt := by rw [← e_102, q_u_ne (by omega)]
    have t_109 : (I_101 o 8).toInt = (I_76 o 8).toInt := by rw [← e_102, q_u_ne (by omega)]
    have t_110 : (I_101 o 9).toInt = (I_76 o 9).toInt := by rw [← e_102, q_u_ne (by omega)]
    have t_111 : (I_101 o 35).toInt = (I_76 o 35).toInt := by rw [← e_102, q_u_ne (by omega)]
    have k_112 : MPo I_101 o := u_74.fr (by rw [← e_102, q_u_ne (by omega)]) (by rw [← e_102, q_u_ne (by omega)])
    have k_113 : MTk I_101 o := u_75.fr (by rw [← e_102, q_u_ne (by omega)]) (by rw [← e_102, q_u_ne (by omega)]) (by rw [← e_102, q_u_ne (by omega)])
    have w_114 : I_101 (o + 6) = I0 (o + 6) := by rw [← e_102, q_u_ne (by omega)]; exact w_100
    have l_115 : (1 : Int32).toInt = 1 := rfl
    have l_116 : (90 : Int32).toInt = 90 := rfl
    refine y_Model_numeral hok hw ra hz14 hz15 hz16 hz17 hz18 hz19 (by first | omega | (intro h; omega) | exact Or.inl rfl | exact Or.inr rfl) k_112 k_113 hR_103 (fun r_117 I_125 L_126 hR_127 fr_128 kp_129 u_118 u_119 u_120 u_121 u_122 u_123 u_124 => ⟨r_117, I_125, L_126, rfl, rfl, ?_⟩)
    have hf_130 : Fm (fun c => c = o ∨ c = o + 6 ∨ (o + 10 ≤ c ∧ c < o + 13)) I0 I_125 := hf_104.call fr_128 (fun c hc => by first | exact hc | (dsimp only at hc ⊢; omega) | omega)
    have t_131 : (I_125 o 3).toInt = (I_101 o 3).toInt := by rw [kp_129 3 rfl]
    have g_132 : (0 : Int) ≤ (I_125 o 4).toInt ∧ (I_125 o 4).toInt ≤ 5 := hR_127.at0 ra 4 (by decide)
    have g_133 : (0 : Int) ≤ (I_125 o 6).toInt ∧ (I_125 o 6).toInt ≤ 1600 := hR_127.at0 ra 6 (by decide)
    have g_134 : (0 : Int) ≤ (I_125 o 7).toInt ∧ (I_125 o 7).toInt ≤ 1601 := hR_127.at0 ra 7 (by decide)
    have g_135 : (0 : Int) ≤ (I_125 o 8).toInt ∧ (I_125 o 8).toInt ≤ 6 := hR_127.at0 ra 8 (by decide)
    have t_136 : (I_125 o 35).toInt = (I_101 o 35).toInt := by rw [kp_129 35 rfl]
    have s_137 : (I0 o 7).toInt ≤ (I_125 o 7).toInt := by omega
    have s_138 : (I0 o 4).toInt ≤ (I_125 o 4).toInt := by omega
    have s_139 : (I_125 o 7).toInt ≤ (I_125 o 3).toInt := by omega
    have s_140 : 7 * (I0 o 7).toInt - (I0 o 8).toInt + (I0 o 4).toInt ≤ 7 * (I_125 o 7).toInt - (I_125 o 8).toInt + (I_125 o 4).toInt := by omega
    clear s_88 s_89 s_90 s_91 t_92 g_93 g_94 g_95 g_96 g_97 t_98 g_99 t_105 t_106 t_107 t_108 t_109 t_110 t_111 t_131 g_132 g_133 g_134 g_135 t_136 u_118 u_119 u_120 u_121
    have t_141 : (I_125 o 3).toInt = (I0 o 3).toInt := by rw [hZ I_125 3 rfl hR_127]
    have g_142 : (0 : Int) ≤ (I_125 o 3).toInt ∧ (I_125 o 3).toInt ≤ 1600 := hR_127.at0 ra 3 (by decide)
    have g_143 : (0 : Int) ≤ (I_125 o 4).toInt ∧ (I_125 o 4).toInt ≤ 5 := hR_127.at0 ra 4 (by decide)
    have g_144 : (0 : Int) ≤ (I_125 o 6).toInt ∧ (I_125 o 6).toInt ≤ 1600 := hR_127.at0 ra 6 (by decide)
    have g_145 : (0 : Int) ≤ (I_125 o 7).toInt ∧ (I_125 o 7).toInt ≤ 1601 := hR_127.at0 ra 7 (by decide)
    have g_146 : (0 : Int) ≤ (I_125 o 8).toInt ∧ (I_125 o 8).toInt ≤ 6 := hR_127.at0 ra 8 (by decide)
    have t_147 : (I_125 o 35).toInt = (I0 o 35).toInt := by rw [hZ I_125 35 rfl hR_127]
    have g_148 : (0 : Int) ≤ (I_125 o 35).toInt ∧ (I_125 o 35).toInt ≤ 1 := hR_127.at0 ra 35 (by decide)
    have w_149 : I_125 (o + 6) = I0 (o + 6) := (fr_128 (o + 6) (by first | omega | (dsimp only; omega))).trans w_114
    refine ⟨tIn (by omega) (by omega), fun I_150 e_151 => ?_⟩
    have hR_152 : RI R I_150 := hR_127.up ra 12 (by decide) (Or.inl rfl) e_151 (i_lo _) (i_hi _)
    have hf_153 : Fm (fun c => c = o ∨ c = o + 6 ∨ (o + 10 ≤ c ∧ c < o + 13)) I0 I_150 := hf_130.set (by first | rfl | omega | (dsimp only; omega)) e_151
    have t_154 : (I_150 o 3).toInt = (I_125 o 3).toInt := by rw [← e_151, q_u_ne (by omega)]
    have t_155 : (I_150 o 4).toInt = (I_125 o 4).toInt := by rw [← e_151, q_u_ne (by omega)]
    have t_156 : (I_150 o 6).toInt = (I_125 o 6).toInt := by rw [← e_151, q_u_ne (by omega)]
    have t_157 : (I_150 o 7).toInt = (I_125 o 7).toInt := by rw [← e_151, q_u_ne (by omega)]
    have t_158 : (I_150 o 8).toInt = (I_125 o 8).toInt := by rw [← e_151, q_u_ne (by omega)]
    have t_159 : (I_150 o 9).toInt = (I_125 o 9).toInt := by rw [← e_151, q_u_ne (by omega)]
    have t_160 : (I_150 o 35).toInt = (I_125 o 35).toInt := by rw [← e_151, q_u_ne (by omega)]
    have k_161 : MPo I_150 o := u_123.fr (by rw [← e_151, q_u_ne (by omega)]) (by rw [← e_151, q_u_ne (by omega)])
    have k_162 : MTk I_150 o := u_124.fr (by rw [← e_151, q_u_ne (by omega)]) (by rw [← e_151, q_u_ne (by omega)]) (by rw [← e_151, q_u_ne (by omega)])
    have w_163 : I_150 (o + 6) = I0 (o + 6) := by rw [← e_151, q_u_ne (by omega)]; exact w_149
    refine y_Model_isGood hok hw ra hR_152 (fun r_164 u_165 u_166 u_167 => ⟨r_164, I_150, L_126, rfl, rfl, ?_⟩)
    have b_168 : 0 ≤ r_164.toInt ∧ r_164.toInt ≤ 1 := u_165.rg
    refine ⟨fun c_169 => ?_, fun c_169 => ?_⟩
    · have d_170 := iEq c_169
      have i_171 := u_167 (by omega)
      exact (hp _ _ hR_152 hf_153 (by first | omega | (intro h; omega) | exact Or.inl rfl | exact Or.inr rfl) (by first | omega | (intro h; omega) | exact Or.inl rfl | exact Or.inr rfl) (by first | omega | (intro h; omega) | exact Or.inl rfl | exact Or.inr rfl) (by first | omega | (intro h; omega) | exact Or.inl rfl | exact Or.inr rfl) k_161 k_162)
    · have d_172 := iNe c_169
      have i_173 := u_166 (by omega)
      have g_174 : (0 : Int) ≤ (I_150 o 35).toInt ∧ (I_150 o 35).toInt ≤ 1 := hR_152.at0 ra 35 (by decide)
      have rk : (I_150 (o + 6) (I_150 o 35 : Int32).toNatClampNeg).toInt = (I0 (o + 6) (I0 o 35 : Int32).toNatClampNeg).toInt := by rw [w_163, hZ I_150 35 rfl hR_152]
      refine ⟨tIn (by omega) (by omega), ?_⟩
      have g_175 : (0 : Int) ≤ (I_150 (o + 6) ((I_150 o 35) : Int32).toNatClampNeg).toInt ∧ (I_150 (o + 6) ((I_150 o 35) : Int32).toNatClampNeg).toInt ≤ 24 := hR_152.at ra 6 _ (by decide)
      have a_176 : ((I_150 (o + 6) ((I_150 o 35) : Int32).toNatClampNeg) + 1).toInt = (I_150 (o + 6) ((I_150 o 35) : Int32).toNatClampNeg).toInt + (1 : Int32).toInt := tAdd (by omega) (by omega)
      refine ⟨tIn (by omega) (by omega), fun I_177 e_178 => ?_⟩
      have hR_179 : RI R I_177 := hR_152.up ra 6 (by decide) (Or.inl rfl) e_178 (show (0 : Int) ≤ ((I_150 (o + 6) ((I_150 o 35) : Int32).toNatClampNeg) + 1).toInt by omega) (show ((I_150 (o + 6) ((I_150 o 35) : Int32).toNatClampNeg) + 1).toInt ≤ (24 : Int) by omega)
      have hf_180 : Fm (fun c => c = o ∨ c = o + 6 ∨ (o + 10 ≤ c ∧ c < o + 13)) I0 I_177 := hf_153.set (by first | rfl | omega | (dsimp only; omega)) e_178
      have t_181 : (I_177 o 3).toInt = (I_150 o 3).toInt := by rw [← e_178, q_u_ne (by omega)]
      have t_182 : (I_177 o 4).toInt = (I_150 o 4).toInt := by rw [← e_178, q_u_ne (by omega)]
      have t_183 : (I_177 o 6).toInt = (I_150 o 6).toInt := by rw [← e_178, q_u_ne (by omega)]
      have t_184 : (I_177 o 7).toInt = (I_150 o 7).toInt := by rw [← e_178, q_u_ne (by omega)]
      have t_185 : (I_177 o 8).toInt = (I_150 o 8).toInt := by rw [← e_178, q_u_ne (by omega)]
      have t_186 : (I_177 o 9).toInt = (I_150 o 9).toInt := by rw [← e_178, q_u_ne (by omega)]
      have t_187 : (I_177 o 35).toInt = (I_150 o 35).toInt := by rw [← e_178, q_u_ne (by omega)]
      have k_188 : MPo I_177 o := k_161.fr (by rw [← e_178, q_u_ne (by omega)]) (by rw [← e_178, q_u_ne (by omega)])
      have k_189 : MTk I_177 o := k_162.fr (by rw [← e_178, q_u_ne (by omega)]) (by rw [← e_178, q_u_ne (by omega)]) (by rw [← e_178, q_u_ne (by omega)])
      exact (hp _ _ hR_179 hf_180 (by first | omega | (intro h; omega) | exact Or.inl rfl | exact Or.inr rfl) (by first | omega | (intro h; omega) | exact Or.inl rfl | exact Or.inr rfl) (by first | omega | (intro h; omega) | exact Or.inl rfl | exact Or.inr rfl) (by first | omega | (intro h; omega) | exact Or.inl rfl | exact Or.inr rfl) k_188 k_189)
  · have d_190 := iNe c_65
    have i_191 := u_61 (by omega)
    have g_192 : (0 : Int) ≤ (I_45 o 8).toInt ∧ (I_45 o 8).toInt ≤ 6 := hR_47.at0 ra 8 (by decide)
    have l_193 : (5 : Int32).toInt = 5 := rfl
    refine ⟨fun c_194 => ?_, fun c_194 => ?_⟩
    · have d_195 := iNe c_194
      unfold fModel_readRoad_65
      refine y_Model_point hok hw ra hz14 hz15 hz16 hz17 hz18 hz19 (by first | omega | (intro h; omega) | exact Or.inl rfl | exact Or.inr rfl) k_56 k_57 hR_47 (fun r_196 I_204 L_205 hR_206 fr_207 kp_208 u_197 u_198 u_199 u_200 u_201 u_202 u_203 => ⟨r_196, I_204, L_205, rfl, rfl, ?_⟩)
      have hf_209 : Fm (fun c => c = o ∨ c = o + 6 ∨ (o + 10 ≤ c ∧ c < o + 13)) I0 I_204 := hf_48.call fr_207 (fun c hc => by first | exact hc | (dsimp only at hc ⊢; omega) | omega)
      have t_210 : (I_204 o 3).toInt = (I_45 o 3).toInt := by rw [kp_208 3 rfl]
      have g_211 : (0 : Int) ≤ (I_204 o 4).toInt ∧ (I_204 o 4).toInt ≤ 5 := hR_206.at0 ra 4 (by decide)
      have g_212 : (0 : Int) ≤ (I_204 o 6).toInt ∧ (I_204 o 6).toInt ≤ 1600 := hR_206.at0 ra 6 (by decide)
      have g_213 : (0 : Int) ≤ (I_204 o 7).toInt ∧ (I_204 o 7).toInt ≤ 1601 := hR_206.at0 ra 7 (by decide)
      have g_214 : (0 : Int) ≤ (I_204 o 8).toInt ∧ (I_204 o 8).toInt ≤ 6 := hR_206.at0 ra 8 (by decide)
      have t_215 : (I_204 o 35).toInt = (I_45 o 35).toInt := by rw [kp_208 35 rfl]
      have s_216 : (I0 o 7).toInt ≤ (I_204 o 7).toInt := by omega
      have s_217 : (I0 o 4).toInt ≤ (I_204 o 4).toInt := by omega
      have s_218 : (I_204 o 7).toInt ≤ (I_204 o 3).toInt := by omega
      have s_219 : 7 * (I0 o 7).toInt - (I0 o 8).toInt + (I0 o 4).toInt ≤ 7 * (I_204 o 7).toInt - (I_204 o 8).toInt + (I_204 o 4).toInt := by omega
      clear s_32 s_33 s_34 s_35 t_36 g_37 g_38 g_39 g_40 g_41 t_42 g_43 t_49 t_50 t_51 t_52 t_53 t_54 t_55 t_210 g_211 g_212 g_213 g_214 t_215 u_198 u_199 u_200 u_201
      have t_220 : (I_204 o 3).toInt = (I0 o 3).toInt := by rw [hZ I_204 3 rfl hR_206]
      have g_221 : (0 : Int) ≤ (I_204 o 3).toInt ∧ (I_204 o 3).toInt ≤ 1600 := hR_206.at0 ra 3 (by decide)
      have g_222 : (0 : Int) ≤ (I_204 o 4).toInt ∧ (I_204 o 4).toInt ≤ 5 := hR_206.at0 ra 4 (by decide)
      have g_223 : (0 : Int) ≤ (I_204 o 6).toInt ∧ (I_204 o 6).toInt ≤ 1600 := hR_206.at0 ra 6 (by decide)
      have g_224 : (0 : Int) ≤ (I_204 o 7).toInt ∧ (I_204 o 7).toInt ≤ 1601 := hR_206.at0 ra 7 (by decide)
      have g_225 : (0 : Int) ≤ (I_204 o 8).toInt ∧ (I_204 o 8).toInt ≤ 6 := hR_206.at0 ra 8 (by decide)
      have t_226 : (I_204 o 35).toInt = (I0 o 35).toInt := by rw [hZ I_204 35 rfl hR_206]
      have g_227 : (0 : Int) ≤ (I_204 o 35).toInt ∧ (I_204 o 35).toInt ≤ 1 := hR_206.at0 ra 35 (by decide)
      have w_228 : I_204 (o + 6) = I0 (o + 6) := (fr_207 (o + 6) (by first | omega | (dsimp only; omega))).trans w_58
      refine ⟨tIn (by omega) (by omega), fun I_229 e_230 => ?_⟩
      have hR_231 : RI R I_229 := hR_206.up ra 11 (by decide) (Or.inl rfl) e_230 (show (0 : Int) ≤ r_196.toInt by omega) (show r_196.toInt ≤ (15 : Int) by omega)
      have hf_232 : Fm (fun c => c = o ∨ c = o + 6 ∨ (o + 10 ≤ c ∧ c < o + 13)) I0 I_229 := hf_209.set (by first | rfl | omega | (dsimp only; omega)) e_230
      have t_233 : (I_229 o 3).toInt = (I_204 o 3).toInt := by rw [← e_230, q_u_ne (by omega)]
      have t_234 : (I_229 o 4).toInt = (I_204 o 4).toInt := by rw [← e_230, q_u_ne (by omega)]
      have t_235 : (I_229 o 6).toInt = (I_204 o 6).toInt := by rw [← e_230, q_u_ne (by omega)]
      have t_236 : (I_229 o 7).toInt = (I_204 o 7).toInt := by rw [← e_230, q_u_ne (by omega)]
      have t_237 : (I_229 o 8).toInt = (I_204 o 8).toInt := by rw [← e_230, q_u_ne (by omega)]
      have t_238 : (I_229 o 9).toInt = (I_204 o 9).toInt := by rw [← e_230, q_u_ne (by omega)]
      have t_239 : (I_229 o 35).toInt = (I_204 o 35).toInt := by rw [← e_230, q_u_ne (by omega)]
      have k_240 : MPo I_229 o := u_202.fr (by rw [← e_230, q_u_ne (by omega)]) (by rw [← e_230, q_u_ne (by omega)])
      have k_241 : MTk I_229 o := u_203.fr (by rw [← e_230, q_u_ne (by omega)]) (by rw [← e_230, q_u_ne (by omega)]) (by rw [← e_230, q_u_ne (by omega)])
      have w_242 : I_229 (o + 6) = I0 (o + 6) := by rw [← e_230, q_u_ne (by omega)]; exact w_228
      have l_243 : (1 : Int32).toInt = 1 := rfl
      have l_244 : (90 : Int32).toInt = 90 := rfl
      refine y_Model_numeral hok hw ra hz14 hz15 hz16 hz17 hz18 hz19 (by first | omega | (intro h; omega) | exact Or.inl rfl | exact Or.inr rfl) k_240 k_241 hR_231 (fun r_245 I_253 L_254 hR_255 fr_256 kp_257 u_246 u_247 u_248 u_249 u_250 u_251 u_252 => ⟨r_245, I_253, L_254, rfl, rfl, ?_⟩)
      have hf_258 : Fm (fun c => c = o ∨ c = o + 6 ∨ (o + 10 ≤ c ∧ c < o + 13)) I0 I_253 := hf_232.call fr_256 (fun c hc => by first | exact hc | (dsimp only at hc ⊢; omega) | omega)
      have t_259 : (I_253 o 3).toInt = (I_229 o 3).toInt := by rw [kp_257 3 rfl]
      have g_260 : (0 : Int) ≤ (I_253 o 4).toInt ∧ (I_253 o 4).toInt ≤ 5 := hR_255.at0 ra 4 (by decide)
      have g_261 : (0 : Int) ≤ (I_253 o 6).toInt ∧ (I_253 o 6).toInt ≤ 1600 := hR_255.at0 ra 6 (by decide)
      have g_262 : (0 : Int) ≤ (I_253 o 7).toInt ∧ (I_253 o 7).toInt ≤ 1601 := hR_255.at0 ra 7 (by decide)
      have g_263 : (0 : Int) ≤ (I_253 o 8).toInt ∧ (I_253 o 8).toInt ≤ 6 := hR_255.at0 ra 8 (by decide)
      have t_264 : (I_253 o 35).toInt = (I_229 o 35).toInt := by rw [kp_257 35 rfl]
      have s_265 : (I0 o 7).toInt ≤ (I_253 o 7).toInt := by omega
      have s_266 : (I0 o 4).toInt ≤ (I_253 o 4).toInt := by omega
      have s_267 : (I_253 o 7).toInt ≤ (I_253 o 3).toInt := by omega
      have s_268 : 7 * (I0 o 7).toInt - (I0 o 8).toInt + (I0 o 4).toInt ≤ 7 * (I_253 o 7).toInt - (I_253 o 8).toInt + (I_253 o 4).toInt := by omega
      clear s_216 s_217 s_218 s_219 t_220 g_221 g_222 g_223 g_224 g_225 t_226 g_227 t_233 t_234 t_235 t_236 t_237 t_238 t_239 t_259 g_260 g_261 g_262 g_263 t_264 u_246 u_247 u_248 u_249
      have t_269 : (I_253 o 3).toInt = (I0 o 3).toInt := by rw [hZ I_253 3 rfl hR_255]
      have g_270 : (0 : Int) ≤ (I_253 o 3).toInt ∧ (I_253 o 3).toInt ≤ 1600 := hR_255.at0 ra 3 (by decide)
      have g_271 : (0 : Int) ≤ (I_253 o 4).toInt ∧ (I_253 o 4).toInt ≤ 5 := hR_255.at0 ra 4 (by decide)
      have g_272 : (0 : Int) ≤ (I_253 o 6).toInt ∧ (I_253 o 6).toInt ≤ 1600 := hR_255.at0 ra 6 (by decide)
      have g_273 : (0 : Int) ≤ (I_253 o 7).toInt ∧ (I_253 o 7).toInt ≤ 1601 := hR_255.at0 ra 7 (by decide)
      have g_274 : (0 : Int) ≤ (I_253 o 8).toInt ∧ (I_253 o 8).toInt ≤ 6 := hR_255.at0 ra 8 (by decide)
      have t_275 : (I_253 o 35).toInt = (I0 o 35).toInt := by rw [hZ I_253 35 rfl hR_255]
      have g_276 : (0 : Int) ≤ (I_253 o 35).toInt ∧ (I_253 o 35).toInt ≤ 1 := hR_255.at0 ra 35 (by decide)
      have w_277 : I_253 (o + 6) = I0 (o + 6) := (fr_256 (o + 6) (by first | omega | (dsimp only; omega))).trans w_242
      refine ⟨tIn (by omega) (by omega), fun I_278 e_279 => ?_⟩
      have hR_280 : RI R I_278 := hR_255.up ra 12 (by decide) (Or.inl rfl) e_279 (i_lo _) (i_hi _)
      have hf_281 : Fm (fun c => c = o ∨ c = o + 6 ∨ (o + 10 ≤ c ∧ c < o + 13)) I0 I_278 := hf_258.set (by first | rfl | omega | (dsimp only; omega)) e_279
      have t_282 : (I_278 o 3).toInt = (I_253 o 3).toInt := by rw [← e_279, q_u_ne (by omega)]
      have t_283 : (I_278 o 4).toInt = (I_253 o 4).toInt := by rw [← e_279, q_u_ne (by omega)]
      have t_284 : (I_278 o 6).toInt = (I_253 o 6).toInt := by rw [← e_279, q_u_ne (by omega)]
      have t_285 : (I_278 o 7).toInt = (I_253 o 7).toInt := by rw [← e_279, q_u_ne (by omega)]
      have t_286 : (I_278 o 8).toInt = (I_253 o 8).toInt := by rw [← e_279, q_u_ne (by omega)]
      have t_287 : (I_278 o 9).toInt = (I_253 o 9).toInt := by rw [← e_279, q_u_ne (by omega)]
      have t_288 : (I_278 o 35).toInt = (I_253 o 35).toInt := by rw [← e_279, q_u_ne (by omega)]
      have k_289 : MPo I_278 o := u_251.fr (by rw [← e_279, q_u_ne (by omega)]) (by rw [← e_279, q_u_ne (by omega)])
      have k_290 : MTk I_278 o := u_252.fr (by rw [← e_279, q_u_ne (by omega)]) (by rw [← e_279, q_u_ne (by omega)]) (by rw [← e_279, q_u_ne (by omega)])
      have w_291 : I_278 (o + 6) = I0 (o + 6) := by rw [← e_279, q_u_ne (by omega)]; exact w_277
      refine y_Model_isGood hok hw ra hR_280 (fun r_292 u_293 u_294 u_295 => ⟨r_292, I_278, L_254, rfl, rfl, ?_⟩)
      have b_296 : 0 ≤ r_292.toInt ∧ r_292.toInt ≤ 1 := u_293.rg
      refine ⟨fun c_297 => ?_, fun c_297 => ?_⟩
      · have d_298 := iEq c_297
        have i_299 := u_295 (by omega)
        exact (hp _ _ hR_280 hf_281 (by first | omega | (intro h; omega) | exact Or.inl rfl | exact Or.inr rfl) (by first | omega | (intro h; omega) | exact Or.inl rfl | exact Or.inr rfl) (by first | omega | (intro h; omega) | exact Or.inl rfl | exact Or.inr rfl) (by first | omega | (intro h; omega) | exact Or.inl rfl | exact Or.inr rfl) k_289 k_290)
      · have d_300 := iNe c_297
        have i_301 := u_294 (by omega)
        have g_302 : (0 : Int) ≤ (I_278 o 35).toInt ∧ (I_278 o 35).toInt ≤ 1 := hR_280.at0 ra 35 (by decide)
        have rk : (I_278 (o + 6) (I_278 o 35 : Int32).toNatClampNeg).toInt = (I0 (o + 6) (I0 o 35 : Int32).toNatClampNeg).toInt := by rw [w_291, hZ I_278 35 rfl hR_280]
        refine ⟨tIn (by omega) (by omega), ?_⟩
        have g_303 : (0 : Int) ≤ (I_278 (o + 6) ((I_278 o 35) : Int32).toNatClampNeg).toInt ∧ (I_278 (o + 6) ((I_278 o 35) : Int32).toNatClampNeg).toInt ≤ 24 := hR_280.at ra 6 _ (by decide)
        have a_304 : ((I_278 (o + 6) ((I_278 o 35) : Int32).toNatClampNeg) + 1).toInt = (I_278 (o + 6) ((I_278 o 35) : Int32).toNatClampNeg).toInt + (1 : Int32).toInt := tAdd (by omega) (by omega)
        refine ⟨tIn (by omega) (by omega), fun I_305 e_306 => ?_⟩
        have hR_307 : RI R I_305 := hR_280.up ra 6 (by decide) (Or.inl rfl) e_306 (show (0 : Int) ≤ ((I_278 (o + 6) ((I_278 o 35) : Int32).toNatClampNeg) + 1).toInt by omega) (show ((I_278 (o + 6) ((I_278 o 35) : Int32).toNatClampNeg) + 1).toInt ≤ (24 : Int) by omega)
        have hf_308 : Fm (fun c => c = o ∨ c = o + 6 ∨ (o + 10 ≤ c ∧ c < o + 13)) I0 I_305 := hf_281.set (by first | rfl | omega | (dsimp only; omega)) e_306
        have t_309 : (I_305 o 3).toInt = (I_278 o 3).toInt := by rw [← e_306, q_u_ne (by omega)]
        have t_310 : (I_305 o 4).toInt = (I_278 o 4).toInt := by rw [← e_306, q_u_ne (by omega)]
        have t_311 : (I_305 o 6).toInt = (I_278 o 6).toInt := by rw [← e_306, q_u_ne (by omega)]
        have t_312 : (I_305 o 7).toInt = (I_278 o 7).toInt := by rw [← e_306, q_u_ne (by omega)]
        have t_313 : (I_305 o 8).toInt = (I_278 o 8).toInt := by rw [← e_306, q_u_ne (by omega)]
        have t_314 : (I_305 o 9).toInt = (I_278 o 9).toInt := by rw [← e_306, q_u_ne (by omega)]
        have t_315 : (I_305 o 35).toInt = (I_278 o 35).toInt := by rw [← e_306, q_u_ne (by omega)]
        have k_316 : MPo I_305 o := k_289.fr (by rw [← e_306, q_u_ne (by omega)]) (by rw [← e_306, q_u_ne (by omega)])
        have k_317 : MTk I_305 o := k_290.fr (by rw [← e_306, q_u_ne (by omega)]) (by rw [← e_306, q_u_ne (by omega)]) (by rw [← e_306, q_u_ne (by omega)])
        exact (hp _ _ hR_307 hf_308 (by first | omega | (intro h; omega) | exact Or.inl rfl | exact Or.inr rfl) (by first | omega | (intro h; omega) | exact Or.inl rfl | exact Or.inr rfl) (by first | omega | (intro h; omega) | exact Or.inl rfl | exact Or.inr rfl) (by first | omega | (intro h; omega) | exact Or.inl rfl | exact Or.inr rfl) k_316 k_317)
    · have d_318 := iEq c_194
      refine ⟨tIn (by omega) (by omega), ?_⟩
      have g_319 : (0 : Int) ≤ (I_45 (o + 10) (((24 * (I0 o 35)) + (I0 (o + 6) ((I0 o 35) : Int32).toNatClampNeg)) : Int32).toNatClampNeg).toInt ∧ (I_45 (o + 10) (((24 * (I0 o 35)) + (I0 (o + 6) ((I0 o 35) : Int32).toNatClampNeg)) : Int32).toNatClampNeg).toInt ≤ 15 := hR_47.at ra 10 _ (by decide)
      refine ⟨fun c_320 => ?_, fun c_320 => ?_⟩
      · have d_321 := iNe c_320
        unfold fModel_readRoad_65
        refine y_Model_point hok hw ra hz14 hz15 hz16 hz17 hz18 hz19 (by first | omega | (intro h; omega) | exact Or.inl rfl | exact Or.inr rfl) k_56 k_57 hR_47 (fun r_322 I_330 L_331 hR_332 fr_333 kp_334 u_323 u_324 u_325 u_326 u_327 u_328 u_329 => ⟨r_322, I_330, L_331, rfl, rfl, ?_⟩)
        have hf_335 : Fm (fun c => c = o ∨ c = o + 6 ∨ (o + 10 ≤ c ∧ c < o + 13)) I0 I_330 := hf_48.call fr_333 (fun c hc => by first | exact hc | (dsimp only at hc ⊢; omega) | omega)
        have t_336 : (I_330 o 3).toInt = (I_45 o 3).toInt := by rw [kp_334 3 rfl]
        have g_337 : (0 : Int) ≤ (I_330 o 4).toInt ∧ (I_330 o 4).toInt ≤ 5 := hR_332.at0 ra 4 (by decide)
        have g_338 : (0 : Int) ≤ (I_330 o 6).toInt ∧ (I_330 o 6).toInt ≤ 1600 := hR_332.at0 ra 6 (by decide)
        have g_339 : (0 : Int) ≤ (I_330 o 7).toInt ∧ (I_330 o 7).toInt ≤ 1601 := hR_332.at0 ra 7 (by decide)
        have g_340 : (0 : Int) ≤ (I_330 o 8).toInt ∧ (I_330 o 8).toInt ≤ 6 := hR_332.at0 ra 8 (by decide)
        have t_341 : (I_330 o 35).toInt = (I_45 o 35).toInt := by rw [kp_334 35 rfl]
        have s_342 : (I0 o 7).toInt ≤ (I_330 o 7).toInt := by omega
        have s_343 : (I0 o 4).toInt ≤ (I_330 o 4).toInt := by omega
        have s_344 : (I_330 o 7).toInt ≤ (I_330 o 3).toInt := by omega
        have s_345 : 7 * (I0 o 7).toInt - (I0 o 8).toInt + (I0 o 4).toInt ≤ 7 * (I_330 o 7).toInt - (I_330 o 8).toInt + (I_330 o 4).toInt := by omega
        clear s_32 s_33 s_34 s_35 t_36 g_37 g_38 g_39 g_40 g_41 t_42 g_43 t_49 t_50 t_51 t_52 t_53 t_54 t_55 t_336 g_337 g_338 g_339 g_340 t_341 u_324 u_325 u_326 u_327
        have t_346 : (I_330 o 3).toInt = (I0 o 3).toInt := by rw [hZ I_330 3 rfl hR_332]
        have g_347 : (0 : Int) ≤ (I_330 o 3).toInt ∧ (I_330 o 3).toInt ≤ 1600 := hR_332.at0 ra 3 (by decide)
        have g_348 : (0 : Int) ≤ (I_330 o 4).toInt ∧ (I_330 o 4).toInt ≤ 5 := hR_332.at0 ra 4 (by decide)
        have g_349 : (0 : Int) ≤ (I_330 o 6).toInt ∧ (I_330 o 6).toInt ≤ 1600 := hR_332.at0 ra 6 (by decide)
        have g_350 : (0 : Int) ≤ (I_330 o 7).toInt ∧ (I_330 o 7).toInt ≤ 1601 := hR_332.at0 ra 7 (by decide)
        have g_351 : (0 : Int) ≤ (I_330 o 8).toInt ∧ (I_330 o 8).toInt ≤ 6 := hR_332.at0 ra 8 (by decide)
        have t_352 : (I_330 o 35).toInt = (I0 o 35).toInt := by rw [hZ I_330 35 rfl hR_332]
        have g_353 : (0 : Int) ≤ (I_330 o 35).toInt ∧ (I_330 o 35).toInt ≤ 1 := hR_332.at0 ra 35 (by decide)
        have w_354 : I_330 (o + 6) = I0 (o + 6) := (fr_333 (o + 6) (by first | omega | (dsimp only; omega))).trans w_58
        refine ⟨tIn (by omega) (by omega), fun I_355 e_356 => ?_⟩
        have hR_357 : RI R I_355 := hR_332.up ra 11 (by decide) (Or.inl rfl) e_356 (show (0 : Int) ≤ r_322.toInt by omega) (show r_322.toInt ≤ (15 : Int) by omega)
        have hf_358 : Fm (fun c => c = o ∨ c = o + 6 ∨ (o + 10 ≤ c ∧ c < o + 13)) I0 I_355 := hf_335.set (by first | rfl | omega | (dsimp only; omega)) e_356
        have t_359 : (I_355 o 3).toInt = (I_330 o 3).toInt := by rw [← e_356, q_u_ne (by omega)]
        have t_360 : (I_355 o 4).toInt = (I_330 o 4).toInt := by rw [← e_356, q_u_ne (by omega)]
        have t_361 : (I_355 o 6).toInt = (I_330 o 6).toInt := by rw [← e_356, q_u_ne (by omega)]
        have t_362 : (I_355 o 7).toInt = (I_330 o 7).toInt := by rw [← e_356, q_u_ne (by omega)]
        have t_363 : (I_355 o 8).toInt = (I_330 o 8).toInt := by rw [← e_356, q_u_ne (by omega)]
        have t_364 : (I_355 o 9).toInt = (I_330 o 9).toInt := by rw [← e_356, q_u_ne (by omega)]
        have t_365 : (I_355 o 35).toInt = (I_330 o 35).toInt := by rw [← e_356, q_u_ne (by omega)]
        have k_366 : MPo I_355 o := u_328.fr (by rw [← e_356, q_u_ne (by omega)]) (by rw [← e_356, q_u_ne (by omega)])
        have k_367 : MTk I_355 o := u_329.fr (by rw [← e_356, q_u_ne (by omega)]) (by rw [← e_356, q_u_ne (by omega)]) (by rw [← e_356, q_u_ne (by omega)])
        have w_368 : I_355 (o + 6) = I0 (o + 6) := by rw [← e_356, q_u_ne (by omega)]; exact w_354
        have l_369 : (1 : Int32).toInt = 1 := rfl
        have l_370 : (90 : Int32).toInt = 90 := rfl
        refine y_Model_numeral hok hw ra hz14 hz15 hz16 hz17 hz18 hz19 (by first | omega | (intro h; omega) | exact Or.inl rfl | exact Or.inr rfl) k_366 k_367 hR_357 (fun r_371 I_379 L_380 hR_381 fr_382 kp_383 u_372 u_373 u_374 u_375 u_376 u_377 u_378 => ⟨r_371, I_379, L_380, rfl, rfl, ?_⟩)
        have hf_384 : Fm (fun c => c = o ∨ c = o + 6 ∨ (o + 10 ≤ c ∧ c < o + 13)) I0 I_379 := hf_358.call fr_382 (fun c hc => by first | exact hc | (dsimp only at hc ⊢; omega) | omega)
        have t_385 : (I_379 o 3).toInt = (I_355 o 3).toInt := by rw [kp_383 3 rfl]
        have g_386 : (0 : Int) ≤ (I_379 o 4).toInt ∧ (I_379 o 4).toInt ≤ 5 := hR_381.at0 ra 4 (by decide)
        have g_387 : (0 : Int) ≤ (I_379 o 6).toInt ∧ (I_379 o 6).toInt ≤ 1600 := hR_381.at0 ra 6 (by decide)
        have g_388 : (0 : Int) ≤ (I_379 o 7).toInt ∧ (I_379 o 7).toInt ≤ 1601 := hR_381.at0 ra 7 (by decide)
        have g_389 : (0 : Int) ≤ (I_379 o 8).toInt ∧ (I_379 o 8).toInt ≤ 6 := hR_381.at0 ra 8 (by decide)
        have t_390 : (I_379 o 35).toInt = (I_355 o 35).toInt := by rw [kp_383 35 rfl]
        have s_391 : (I0 o 7).toInt ≤ (I_379 o 7).toInt := by omega
        have s_392 : (I0 o 4).toInt ≤ (I_379 o 4).toInt := by omega
        have s_393 : (I_379 o 7).toInt ≤ (I_379 o 3).toInt := by omega
        have s_394 : 7 * (I0 o 7).toInt - (I0 o 8).toInt + (I0 o 4).toInt ≤ 7 * (I_379 o 7).toInt - (I_379 o 8).toInt + (I_379 o 4).toInt := by omega
        clear s_342 s_343 s_344 s_345 t_346 g_347 g_348 g_349 g_350 g_351 t_352 g_353 t_359 t_360 t_361 t_362 t_363 t_364 t_365 t_385 g_386 g_387 g_388 g_389 t_390 u_372 u_373 u_374 u_375
        have t_395 : (I_379 o 3).toInt = (I0 o 3).toInt := by rw [hZ I_379 3 rfl hR_381]
        have g_396 : (0 : Int) ≤ (I_379 o 3).toInt ∧ (I_379 o 3).toInt ≤ 1600 := hR_381.at0 ra 3 (by decide)
        have g_397 : (0 : Int) ≤ (I_379 o 4).toInt ∧ (I_379 o 4).toInt ≤ 5 := hR_381.at0 ra 4 (by decide)
        have g_398 : (0 : Int) ≤ (I_379 o 6).toInt ∧ (I_379 o 6).toInt ≤ 1600 := hR_381.at0 ra 6 (by decide)
        have g_399 : (0 : Int) ≤ (I_379 o 7).toInt ∧ (I_379 o 7).toInt ≤ 1601 := hR_381.at0 ra 7 (by decide)
        have g_400 : (0 : Int) ≤ (I_379 o 8).toInt ∧ (I_379 o 8).toInt ≤ 6 := hR_381.at0 ra 8 (by decide)
        have t_401 : (I_379 o 35).toInt = (I0 o 35).toInt := by rw [hZ I_379 35 rfl hR_381]
        have g_402 : (0 : Int) ≤ (I_379 o 35).toInt ∧ (I_379 o 35).toInt ≤ 1 := hR_381.at0 ra 35 (by decide)
        have w_403 : I_379 (o + 6) = I0 (o + 6) := (fr_382 (o + 6) (by first | omega | (dsimp only; omega))).trans w_368
        refine ⟨tIn (by omega) (by omega), fun I_404 e_405 => ?_⟩
        have hR_406 : RI R I_404 := hR_381.up ra 12 (by decide) (Or.inl rfl) e_405 (i_lo _) (i_hi _)
        have hf_407 : Fm (fun c => c = o ∨ c = o + 6 ∨ (o + 10 ≤ c ∧ c < o + 13)) I0 I_404 := hf_384.set (by first | rfl | omega | (dsimp only; omega)) e_405
        have t_408 : (I_404 o 3).toInt = (I_379 o 3).toInt := by rw [← e_405, q_u_ne (by omega)]
        have t_409 : (I_404 o 4).toInt = (I_379 o 4).toInt := by rw [← e_405, q_u_ne (by omega)]
        have t_410 : (I_404 o 6).toInt = (I_379 o 6).toInt := by rw [← e_405, q_u_ne (by omega)]
        have t_411 : (I_404 o 7).toInt = (I_379 o 7).toInt := by rw [← e_405, q_u_ne (by omega)]
        have t_412 : (I_404 o 8).toInt = (I_379 o 8).toInt := by rw [← e_405, q_u_ne (by omega)]
        have t_413 : (I_404 o 9).toInt = (I_379 o 9).toInt := by rw [← e_405, q_u_ne (by omega)]
        have t_414 : (I_404 o 35).toInt = (I_379 o 35).toInt := by rw [← e_405, q_u_ne (by omega)]
        have k_415 : MPo I_404 o := u_377.fr (by rw [← e_405, q_u_ne (by omega)]) (by rw [← e_405, q_u_ne (by omega)])
        have k_416 : MTk I_404 o := u_378.fr (by rw [← e_405, q_u_ne (by omega)]) (by rw [← e_405, q_u_ne (by omega)]) (by rw [← e_405, q_u_ne (by omega)])
        have w_417 : I_404 (o + 6) = I0 (o + 6) := by rw [← e_405, q_u_ne (by omega)]; exact w_403
        refine y_Model_isGood hok hw ra hR_406 (fun r_418 u_419 u_420 u_421 => ⟨r_418, I_404, L_380, rfl, rfl, ?_⟩)
        have b_422 : 0 ≤ r_418.toInt ∧ r_418.toInt ≤ 1 := u_419.rg
        refine ⟨fun c_423 => ?_, fun c_423 => ?_⟩
        · have d_424 := iEq c_423
          have i_425 := u_421 (by omega)
          exact (hp _ _ hR_406 hf_407 (by first | omega | (intro h; omega) | exact Or.inl rfl | exact Or.inr rfl) (by first | omega | (intro h; omega) | exact Or.inl rfl | exact Or.inr rfl) (by first | omega | (intro h; omega) | exact Or.inl rfl | exact Or.inr rfl) (by first | omega | (intro h; omega) | exact Or.inl rfl | exact Or.inr rfl) k_415 k_416)
        · have d_426 := iNe c_423
          have i_427 := u_420 (by omega)
          have g_428 : (0 : Int) ≤ (I_404 o 35).toInt ∧ (I_404 o 35).toInt ≤ 1 := hR_406.at0 ra 35 (by decide)
          have rk : (I_404 (o + 6) (I_404 o 35 : Int32).toNatClampNeg).toInt = (I0 (o + 6) (I0 o 35 : Int32).toNatClampNeg).toInt := by rw [w_417, hZ I_404 35 rfl hR_406]
          refine ⟨tIn (by omega) (by omega), ?_⟩
          have g_429 : (0 : Int) ≤ (I_404 (o + 6) ((I_404 o 35) : Int32).toNatClampNeg).toInt ∧ (I_404 (o + 6) ((I_404 o 35) : Int32).toNatClampNeg).toInt ≤ 24 := hR_406.at ra 6 _ (by decide)
          have a_430 : ((I_404 (o + 6) ((I_404 o 35) : Int32).toNatClampNeg) + 1).toInt = (I_404 (o + 6) ((I_404 o 35) : Int32).toNatClampNeg).toInt + (1 : Int32).toInt := tAdd (by omega) (by omega)
          refine ⟨tIn (by omega) (by omega), fun I_431 e_432 => ?_⟩
          have hR_433 : RI R I_431 := hR_406.up ra 6 (by decide) (Or.inl rfl) e_432 (show (0 : Int) ≤ ((I_404 (o + 6) ((I_404 o 35) : Int32).toNatClampNeg) + 1).toInt by omega) (show ((I_404 (o + 6) ((I_404 o 35) : Int32).toNatClampNeg) + 1).toInt ≤ (24 : Int) by omega)
          have hf_434 : Fm (fun c => c = o ∨ c = o + 6 ∨ (o + 10 ≤ c ∧ c < o + 13)) I0 I_431 := hf_407.set (by first | rfl | omega | (dsimp only; omega)) e_432
          have t_435 : (I_431 o 3).toInt = (I_404 o 3).toInt := by rw [← e_432, q_u_ne (by omega)]
          have t_436 : (I_431 o 4).toInt = (I_404 o 4).toInt := by rw [← e_432, q_u_ne (by omega)]
          have t_437 : (I_431 o 6).toInt = (I_404 o 6).toInt := by rw [← e_432, q_u_ne (by omega)]
          have t_438 : (I_431 o 7).toInt = (I_404 o 7).toInt := by rw [← e_432, q_u_ne (by omega)]
          have t_439 : (I_431 o 8).toInt = (I_404 o 8).toInt := by rw [← e_432, q_u_ne (by omega)]
          have t_440 : (I_431 o 9).toInt = (I_404 o 9).toInt := by rw [← e_432, q_u_ne (by omega)]
          have t_441 : (I_431 o 35).toInt = (I_404 o 35).toInt := by rw [← e_432, q_u_ne (by omega)]
          have k_442 : MPo I_431 o := k_415.fr (by rw [← e_432, q_u_ne (by omega)]) (by rw [← e_432, q_u_ne (by omega)])
          have k_443 : MTk I_431 o := k_416.fr (by rw [← e_432, q_u_ne (by omega)]) (by rw [← e_432, q_u_ne (by omega)]) (by rw [← e_432, q_u_ne (by omega)])
          exact (hp _ _ hR_433 hf_434 (by first | omega | (intro h; omega) | exact Or.inl rfl | exact Or.inr rfl) (by first | omega | (intro h; omega) | exact Or.inl rfl | exact Or.inr rfl) (by first | omega | (intro h; omega) | exact Or.inl rfl | exact Or.inr rfl) (by first | omega | (intro h; omega) | exact Or.inl rfl | exact Or.inr rfl) k_442 k_443)
      · have d_444 := iEq c_320
        have g_445 : (0 : Int) ≤ (I_45 o 6).toInt ∧ (I_45 o 6).toInt ≤ 1600 := hR_47.at0 ra 6 (by decide)
        have l_446 : (4 : Int32).toInt = 4 := rfl
        refine y_Model_fails hok hw ra hz14 hz15 (by first | omega | (intro h; omega) | exact Or.inl rfl | exact Or.inr rfl) hR_47 (fun I_450 L_451 hR_452 fr_453 kp_454 u_448 u_449 => ⟨I_450, L_451, rfl, rfl, ?_⟩)
        have hf_455 : Fm (fun c => c = o ∨ c = o + 6 ∨ (o + 10 ≤ c ∧ c < o + 13)) I0 I_450 := hf_48.call fr_453 (fun c hc => by first | exact hc | (dsimp only at hc ⊢; omega) | omega)
        have t_456 : (I_450 o 3).toInt = (I_45 o 3).toInt := by rw [kp_454 3 rfl]
        have g_457 : (0 : Int) ≤ (I_450 o 4).toInt ∧ (I_450 o 4).toInt ≤ 5 := hR_452.at0 ra 4 (by decide)
        have t_458 : (I_450 o 6).toInt = (I_45 o 6).toInt := by rw [kp_454 6 rfl]
        have t_459 : (I_450 o 7).toInt = (I_45 o 7).toInt := by rw [kp_454 7 rfl]
        have t_460 : (I_450 o 8).toInt = (I_45 o 8).toInt := by rw [kp_454 8 rfl]
        have t_461 : (I_450 o 9).toInt = (I_45 o 9).toInt := by rw [kp_454 9 rfl]
        have t_462 : (I_450 o 35).toInt = (I_45 o 35).toInt := by rw [kp_454 35 rfl]
        have s_463 : (I0 o 7).toInt ≤ (I_450 o 7).toInt := by omega
        have s_464 : (I0 o 4).toInt ≤ (I_450 o 4).toInt := by omega
        have s_465 : (I_450 o 7).toInt ≤ (I_450 o 3).toInt := by omega
        have s_466 : 7 * (I0 o 7).toInt - (I0 o 8).toInt + (I0 o 4).toInt ≤ 7 * (I_450 o 7).toInt - (I_450 o 8).toInt + (I_450 o 4).toInt := by omega
        clear s_32 s_33 s_34 s_35 t_36 g_37 g_38 g_39 g_40 g_41 t_42 g_43 t_49 t_50 t_51 t_52 t_53 t_54 t_55 t_456 g_457 t_458 t_459 t_460 t_461 t_462 u_448 u_449
        have t_467 : (I_450 o 3).toInt = (I0 o 3).toInt := by rw [hZ I_450 3 rfl hR_452]
        have g_468 : (0 : Int) ≤ (I_450 o 3).toInt ∧ (I_450 o 3).toInt ≤ 1600 := hR_452.at0 ra 3 (by decide)
        have g_469 : (0 : Int) ≤ (I_450 o 4).toInt ∧ (I_450 o 4).toInt ≤ 5 := hR_452.at0 ra 4 (by decide)
        have g_470 : (0 : Int) ≤ (I_450 o 6).toInt ∧ (I_450 o 6).toInt ≤ 1600 := hR_452.at0 ra 6 (by decide)
        have g_471 : (0 : Int) ≤ (I_450 o 7).toInt ∧ (I_450 o 7).toInt ≤ 1601 := hR_452.at0 ra 7 (by decide)
        have g_472 : (0 : Int) ≤ (I_450 o 8).toInt ∧ (I_450 o 8).toInt ≤ 6 := hR_452.at0 ra 8 (by decide)
        have t_473 : (I_450 o 35).toInt = (I0 o 35).toInt := by rw [hZ I_450 35 rfl hR_452]
        have g_474 : (0 : Int) ≤ (I_450 o 35).toInt ∧ (I_450 o 35).toInt ≤ 1 := hR_452.at0 ra 35 (by decide)
        have k_475 : MPo I_450 o := k_56.fr (kp_454 8 rfl) (kp_454 9 rfl)
        have k_476 : MTk I_450 o := k_57.fr (kp_454 6 rfl) (kp_454 7 rfl) (kp_454 8 rfl)
        have w_477 : I_450 (o + 6) = I0 (o + 6) := (fr_453 (o + 6) (by first | omega | (dsimp only; omega))).trans w_58
        unfold fModel_readRoad_65
        refine y_Model_point hok hw ra hz14 hz15 hz16 hz17 hz18 hz19 (by first | omega | (intro h; omega) | exact Or.inl rfl | exact Or.inr rfl) k_475 k_476 hR_452 (fun r_478 I_486 L_487 hR_488 fr_489 kp_490 u_479 u_480 u_481 u_482 u_483 u_484 u_485 => ⟨r_478, I_486, L_487, rfl, rfl, ?_⟩)
        have hf_491 : Fm (fun c => c = o ∨ c = o + 6 ∨ (o + 10 ≤ c ∧ c < o + 13)) I0 I_486 := hf_455.call fr_489 (fun c hc => by first | exact hc | (dsimp only at hc ⊢; omega) | omega)
        have t_492 : (I_486 o 3).toInt = (I_450 o 3).toInt := by rw [kp_490 3 rfl]
        have g_493 : (0 : Int) ≤ (I_486 o 4).toInt ∧ (I_486 o 4).toInt ≤ 5 := hR_488.at0 ra 4 (by decide)
        have g_494 : (0 : Int) ≤ (I_486 o 6).toInt ∧ (I_486 o 6).toInt ≤ 1600 := hR_488.at0 ra 6 (by decide)
        have g_495 : (0 : Int) ≤ (I_486 o 7).toInt ∧ (I_486 o 7).toInt ≤ 1601 := hR_488.at0 ra 7 (by decide)
        have g_496 : (0 : Int) ≤ (I_486 o 8).toInt ∧ (I_486 o 8).toInt ≤ 6 := hR_488.at0 ra 8 (by decide)
        have t_497 : (I_486 o 35).toInt = (I_450 o 35).toInt := by rw [kp_490 35 rfl]
        have s_498 : (I0 o 7).toInt ≤ (I_486 o 7).toInt := by omega
        have s_499 : (I0 o 4).toInt ≤ (I_486 o 4).toInt := by omega
        have s_500 : (I_486 o 7).toInt ≤ (I_486 o 3).toInt := by omega
        have s_501 : 7 * (I0 o 7).toInt - (I0 o 8).toInt + (I0 o 4).toInt ≤ 7 * (I_486 o 7).toInt - (I_486 o 8).toInt + (I_486 o 4).toInt := by omega
        clear s_463 s_464 s_465 s_466 t_467 g_468 g_469 g_470 g_471 g_472 t_473 g_474 t_492 g_493 g_494 g_495 g_496 t_497 u_480 u_481 u_482 u_483
        have t_502 : (I_486 o 3).toInt = (I0 o 3).toInt := by rw [hZ I_486 3 rfl hR_488]
        have g_503 : (0 : Int) ≤ (I_486 o 3).toInt ∧ (I_486 o 3).toInt ≤ 1600 := hR_488.at0 ra 3 (by decide)
        have g_504 : (0 : Int) ≤ (I_486 o 4).toInt ∧ (I_486 o 4).toInt ≤ 5 := hR_488.at0 ra 4 (by decide)
        have g_505 : (0 : Int) ≤ (I_486 o 6).toInt ∧ (I_486 o 6).toInt ≤ 1600 := hR_488.at0 ra 6 (by decide)
        have g_506 : (0 : Int) ≤ (I_486 o 7).toInt ∧ (I_486 o 7).toInt ≤ 1601 := hR_488.at0 ra 7 (by decide)
        have g_507 : (0 : Int) ≤ (I_486 o 8).toInt ∧ (I_486 o 8).toInt ≤ 6 := hR_488.at0 ra 8 (by decide)
        have t_508 : (I_486 o 35).toInt = (I0 o 35).toInt := by rw [hZ I_486 35 rfl hR_488]
        have g_509 : (0 : Int) ≤ (I_486 o 35).toInt ∧ (I_486 o 35).toInt ≤ 1 := hR_488.at0 ra 35 (by decide)
        have w_510 : I_486 (o + 6) = I0 (o + 6) := (fr_489 (o + 6) (by first | omega | (dsimp only; omega))).trans w_477
        refine ⟨tIn (by omega) (by omega), fun I_511 e_512 => ?_⟩
        have hR_513 : RI R I_511 := hR_488.up ra 11 (by decide) (Or.inl rfl) e_512 (show (0 : Int) ≤ r_478.toInt by omega) (show r_478.toInt ≤ (15 : Int) by omega)
        have hf_514 : Fm (fun c => c = o ∨ c = o + 6 ∨ (o + 10 ≤ c ∧ c < o + 13)) I0 I_511 := hf_491.set (by first | rfl | omega | (dsimp only; omega)) e_512
        have t_515 : (I_511 o 3).toInt = (I_486 o 3).toInt := by rw [← e_512, q_u_ne (by omega)]
        have t_516 : (I_511 o 4).toInt = (I_486 o 4).toInt := by rw [← e_512, q_u_ne (by omega)]
        have t_517 : (I_511 o 6).toInt = (I_486 o 6).toInt := by rw [← e_512, q_u_ne (by omega)]
        have t_518 : (I_511 o 7).toInt = (I_486 o 7).toInt := by rw [← e_512, q_u_ne (by omega)]
        have t_519 : (I_511 o 8).toInt = (I_486 o 8).toInt := by rw [← e_512, q_u_ne (by omega)]
        have t_520 : (I_511 o 9).toInt = (I_486 o 9).toInt := by rw [← e_512, q_u_ne (by omega)]
        have t_521 : (I_511 o 35).toInt = (I_486 o 35).toInt := by rw [← e_512, q_u_ne (by omega)]
        have k_522 : MPo I_511 o := u_484.fr (by rw [← e_512, q_u_ne (by omega)]) (by rw [← e_512, q_u_ne (by omega)])
        have k_523 : MTk I_511 o := u_485.fr (by rw [← e_512, q_u_ne (by omega)]) (by rw [← e_512, q_u_ne (by omega)]) (by rw [← e_512, q_u_ne (by omega)])
        have w_524 : I_511 (o + 6) = I0 (o + 6) := by rw [← e_512, q_u_ne (by omega)]; exact w_510
        have l_525 : (1 : Int32).toInt = 1 := rfl
        have l_526 : (90 : Int32).toInt = 90 := rfl
        refine y_Model_numeral hok hw ra hz14 hz15 hz16 hz17 hz18 hz19 (by first | omega | (intro h; omega) | exact Or.inl rfl | exact Or.inr rfl) k_522 k_523 hR_513 (fun r_527 I_535 L_536 hR_537 fr_538 kp_539 u_528 u_529 u_530 u_531 u_532 u_533 u_534 => ⟨r_527, I_535, L_536, rfl, rfl, ?_⟩)
        have hf_540 : Fm (fun c => c = o ∨ c = o + 6 ∨ (o + 10 ≤ c ∧ c < o + 13)) I0 I_535 := hf_514.call fr_538 (fun c hc => by first | exact hc | (dsimp only at hc ⊢; omega) | omega)
        have t_541 : (I_535 o 3).toInt = (I_511 o 3).toInt := by rw [kp_539 3 rfl]
        have g_542 : (0 : Int) ≤ (I_535 o 4).toInt ∧ (I_535 o 4).toInt ≤ 5 := hR_537.at0 ra 4 (by decide)
        have g_543 : (0 : Int) ≤ (I_535 o 6).toInt ∧ (I_535 o 6).toInt ≤ 1600 := hR_537.at0 ra 6 (by decide)
        have g_544 : (0 : Int) ≤ (I_535 o 7).toInt ∧ (I_535 o 7).toInt ≤ 1601 := hR_537.at0 ra 7 (by decide)
        have g_545 : (0 : Int) ≤ (I_535 o 8).toInt ∧ (I_535 o 8).toInt ≤ 6 := hR_537.at0 ra 8 (by decide)
        have t_546 : (I_535 o 35).toInt = (I_511 o 35).toInt := by rw [kp_539 35 rfl]
        have s_547 : (I0 o 7).toInt ≤ (I_535 o 7).toInt := by omega
        have s_548 : (I0 o 4).toInt ≤ (I_535 o 4).toInt := by omega
        have s_549 : (I_535 o 7).toInt ≤ (I_535 o 3).toInt := by omega
        have s_550 : 7 * (I0 o 7).toInt - (I0 o 8).toInt + (I0 o 4).toInt ≤ 7 * (I_535 o 7).toInt - (I_535 o 8).toInt + (I_535 o 4).toInt := by omega
        clear s_498 s_499 s_500 s_501 t_502 g_503 g_504 g_505 g_506 g_507 t_508 g_509 t_515 t_516 t_517 t_518 t_519 t_520 t_521 t_541 g_542 g_543 g_544 g_545 t_546 u_528 u_529 u_530 u_531
        have t_551 : (I_535 o 3).toInt = (I0 o 3).toInt := by rw [hZ I_535 3 rfl hR_537]
        have g_552 : (0 : Int) ≤ (I_535 o 3).toInt ∧ (I_535 o 3).toInt ≤ 1600 := hR_537.at0 ra 3 (by decide)
        have g_553 : (0 : Int) ≤ (I_535 o 4).toInt ∧ (I_535 o 4).toInt ≤ 5 := hR_537.at0 ra 4 (by decide)
        have g_554 : (0 : Int) ≤ (I_535 o 6).toInt ∧ (I_535 o 6).toInt ≤ 1600 := hR_537.at0 ra 6 (by decide)
        have g_555 : (0 : Int) ≤ (I_535 o 7).toInt ∧ (I_535 o 7).toInt ≤ 1601 := hR_537.at0 ra 7 (by decide)
        have g_556 : (0 : Int) ≤ (I_535 o 8).toInt ∧ (I_535 o 8).toInt ≤ 6 := hR_537.at0 ra 8 (by decide)
        have t_557 : (I_535 o 35).toInt = (I0 o 35).toInt := by rw [hZ I_535 35 rfl hR_537]
        have g_558 : (0 : Int) ≤ (I_535 o 35).toInt ∧ (I_535 o 35).toInt ≤ 1 := hR_537.at0 ra 35 (by decide)
        have w_559 : I_535 (o + 6) = I0 (o + 6) := (fr_538 (o + 6) (by first | omega | (dsimp only; omega))).trans w_524
        refine ⟨tIn (by omega) (by omega), fun I_560 e_561 => ?_⟩
        have hR_562 : RI R I_560 := hR_537.up ra 12 (by decide) (Or.inl rfl) e_561 (i_lo _) (i_hi _)
        have hf_563 : Fm (fun c => c = o ∨ c = o + 6 ∨ (o + 10 ≤ c ∧ c < o + 13)) I0 I_560 := hf_540.set (by first | rfl | omega | (dsimp only; omega)) e_561
        have t_564 : (I_560 o 3).toInt = (I_535 o 3).toInt := by rw [← e_561, q_u_ne (by omega)]
        have t_565 : (I_560 o 4).toInt = (I_535 o 4).toInt := by rw [← e_561, q_u_ne (by omega)]
        have t_566 : (I_560 o 6).toInt = (I_535 o 6).toInt := by rw [← e_561, q_u_ne (by omega)]
        have t_567 : (I_560 o 7).toInt = (I_535 o 7).toInt := by rw [← e_561, q_u_ne (by omega)]
        have t_568 : (I_560 o 8).toInt = (I_535 o 8).toInt := by rw [← e_561, q_u_ne (by omega)]
        have t_569 : (I_560 o 9).toInt = (I_535 o 9).toInt := by rw [← e_561, q_u_ne (by omega)]
        have t_570 : (I_560 o 35).toInt = (I_535 o 35).toInt := by rw [← e_561, q_u_ne (by omega)]
        have k_571 : MPo I_560 o := u_533.fr (by rw [← e_561, q_u_ne (by omega)]) (by rw [← e_561, q_u_ne (by omega)])
        have k_572 : MTk I_560 o := u_534.fr (by rw [← e_561, q_u_ne (by omega)]) (by rw [← e_561, q_u_ne (by omega)]) (by rw [← e_561, q_u_ne (by omega)])
        have w_573 : I_560 (o + 6) = I0 (o + 6) := by rw [← e_561, q_u_ne (by omega)]; exact w_559
        refine y_Model_isGood hok hw ra hR_562 (fun r_574 u_575 u_576 u_577 => ⟨r_574, I_560, L_536, rfl, rfl, ?_⟩)
        have b_578 : 0 ≤ r_574.toInt ∧ r_574.toInt ≤ 1 := u_575.rg
        refine ⟨fun c_579 => ?_, fun c_579 => ?_⟩
        · have d_580 := iEq c_579
          have i_581 := u_577 (by omega)
          exact (hp _ _ hR_562 hf_563 (by first | omega | (intro h; omega) | exact Or.inl rfl | exact Or.inr rfl) (by first | omega | (intro h; omega) | exact Or.inl rfl | exact Or.inr rfl) (by first | omega | (intro h; omega) | exact Or.inl rfl | exact Or.inr rfl) (by first | omega | (intro h; omega) | exact Or.inl rfl | exact Or.inr rfl) k_571 k_572)
        · have d_582 := iNe c_579
          have i_583 := u_576 (by omega)
          have g_584 : (0 : Int) ≤ (I_560 o 35).toInt ∧ (I_560 o 35).toInt ≤ 1 := hR_562.at0 ra 35 (by decide)
          have rk : (I_560 (o + 6) (I_560 o 35 : Int32).toNatClampNeg).toInt = (I0 (o + 6) (I0 o 35 : Int32).toNatClampNeg).toInt := by rw [w_573, hZ I_560 35 rfl hR_562]
          refine ⟨tIn (by omega) (by omega), ?_⟩
          have g_585 : (0 : Int) ≤ (I_560 (o + 6) ((I_560 o 35) : Int32).toNatClampNeg).toInt ∧ (I_560 (o + 6) ((I_560 o 35) : Int32).toNatClampNeg).toInt ≤ 24 := hR_562.at ra 6 _ (by decide)
          have a_586 : ((I_560 (o + 6) ((I_560 o 35) : Int32).toNatClampNeg) + 1).toInt = (I_560 (o + 6) ((I_560 o 35) : Int32).toNatClampNeg).toInt + (1 : Int32).toInt := tAdd (by omega) (by omega)
          refine ⟨tIn (by omega) (by omega), fun I_587 e_588 => ?_⟩
          have hR_589 : RI R I_587 := hR_562.up ra 6 (by decide) (Or.inl rfl) e_588 (show (0 : Int) ≤ ((I_560 (o + 6) ((I_560 o 35) : Int32).toNatClampNeg) + 1).toInt by omega) (show ((I_560 (o + 6) ((I_560 o 35) : Int32).toNatClampNeg) + 1).toInt ≤ (24 : Int) by omega)
          have hf_590 : Fm (fun c => c = o ∨ c = o + 6 ∨ (o + 10 ≤ c ∧ c < o + 13)) I0 I_587 := hf_563.set (by first | rfl | omega | (dsimp only; omega)) e_588
          have t_591 : (I_587 o 3).toInt = (I_560 o 3).toInt := by rw [← e_588, q_u_ne (by omega)]
          have t_592 : (I_587 o 4).toInt = (I_560 o 4).toInt := by rw [← e_588, q_u_ne (by omega)]
          have t_593 : (I_587 o 6).toInt = (I_560 o 6).toInt := by rw [← e_588, q_u_ne (by omega)]
          have t_594 : (I_587 o 7).toInt = (I_560 o 7).toInt := by rw [← e_588, q_u_ne (by omega)]
          have t_595 : (I_587 o 8).toInt = (I_560 o 8).toInt := by rw [← e_588, q_u_ne (by omega)]
          have t_596 : (I_587 o 9).toInt = (I_560 o 9).toInt := by rw [← e_588, q_u_ne (by omega)]
          have t_597 : (I_587 o 35).toInt = (I_560 o 35).toInt := by rw [← e_588, q_u_ne (by omega)]
          have k_598 : MPo I_587 o := k_571.fr (by rw [← e_588, q_u_ne (by omega)]) (by rw [← e_588, q_u_ne (by omega)])
          have k_599 : MTk I_587 o := k_572.fr (by rw [← e_588, q_u_ne (by omega)]) (by rw [← e_588, q_u_ne (by omega)]) (by rw [← e_588, q_u_ne (by omega)])
          exact (hp _ _ hR_589 hf_590 (by first | omega | (intro h; omega) | exact Or.inl rfl | exact Or.inr rfl) (by first | omega | (intro h; omega) | exact Or.inl rfl | exact Or.inr rfl) (by first | omega | (intro h; omega) | exact Or.inl rfl | exact Or.inr rfl) (by first | omega | (intro h; omega) | exact Or.inl rfl | exact Or.inr rfl) k_598 k_599)
theorem y_Model_readRoad {D : va_G} {cA : FieldType → ClassId} {b : Nat} {E : State → Prop} {R : qRg} {o n : Nat} {sh : Nat → qC} {Rf : Nat → Nat → Option Nat} {I0 : Nat → Nat → Int32} {L0 : Nat → Nat → Int64} {post : Option Value → qS → Prop} (hok : q_ok (qGG D cA b E)) (hw : WfModel (qGG D cA b E) n sh Rf o) (ra : RAModel R o) (hz14 : R.2 14 = true) (hz15 : R.2 15 = true) (hz16 : R.2 16 = true) (hz17 : R.2 17 = true) (hz18 : R.2 18 = true) (hz19 : R.2 19 = true) (hq0 : (I0 o 7).toInt ≤ (I0 o 3).toInt) (hq1 : (I0 (o + 6) (I0 o 35 : Int32).toNatClampNeg).toInt ≤ 23) (hq2 : MPo I0 o) (hq3 : MTk I0 o) (hR : RI R I0) (hp : ∀ (I' : Nat → Nat → Int32) (L' : Nat → Nat → Int64), RI R I' → Fm (fun c => c = o ∨ c = o + 6 ∨ (o + 10 ≤ c ∧ c < o + 13)) I0 I' → Kp wModel_readRoad I0 I' o → ((I' o 7).toInt ≤ (I' o 3).toInt) → ((I0 o 7).toInt ≤ (I' o 7).toInt) → ((I0 o 4).toInt ≤ (I' o 4).toInt) → (7 * (I0 o 7).toInt - (I0 o 8).toInt + (I0 o 4).toInt ≤ 7 * (I' o 7).toInt - (I' o 8).toInt + (I' o 4).toInt) → (MPo I' o) → (MTk I' o) → post none (n, sh, Rf, I', L')) : Ev (qGG D cA b E) mModel_readRoad 5 (0, 0) 0 (lv_args 0 [.ref o]) [] (n, sh, Rf, I0, L0) post :=
  yc_Model_readRoad (R := fzR R I0 o wModel_readRoad) hok hw (fzA ra hR _) (fzT hz14 rfl) (fzT hz15 rfl) (fzT hz16 rfl) (fzT hz17 rfl) (fzT hz18 rfl) (fzT hz19 rfl) fzZ (fzI hR) hq0 hq1 hq2 hq3 (fzI hR) (fun I' L' h1 h2 u0 u1 u2 u3 u4 u5 => hp I' L' (fzB hR h1) h2 (fzP h1) u0 u1 u2 u3 u4 u5)
