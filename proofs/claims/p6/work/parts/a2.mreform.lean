/-! Safety of the reference, readReform: by program (spec.py). -/
def wModel_readReform : Nat → Bool := fun j => Nat.beq j 14 || Nat.beq j 15 || Nat.beq j 16 || Nat.beq j 17 || Nat.beq j 18 || Nat.beq j 19 || Nat.beq j 55 || Nat.beq j 56 || Nat.beq j 57 || Nat.beq j 58 || Nat.beq j 59 || false
set_option maxHeartbeats 4000000 in
set_option maxRecDepth 20000 in
theorem yc_Model_readReform {D : va_G} {cA : FieldType → ClassId} {b : Nat} {E : State → Prop} {R : qRg} {o n : Nat} {sh : Nat → qC} {Rf : Nat → Nat → Option Nat} {I0 : Nat → Nat → Int32} {L0 : Nat → Nat → Int64} {post : Option Value → qS → Prop} (hok : q_ok (qGG D cA b E)) (hw : WfModel (qGG D cA b E) n sh Rf o) (ra : RAModel R o) (hz14 : R.2 14 = true) (hz15 : R.2 15 = true) (hz16 : R.2 16 = true) (hz17 : R.2 17 = true) (hz18 : R.2 18 = true) (hz19 : R.2 19 = true) (hz55 : R.2 55 = true) (hz56 : R.2 56 = true) (hz57 : R.2 57 = true) (hz58 : R.2 58 = true) (hz59 : R.2 59 = true) (hZ : Fz R I0 o wModel_readReform) (hR0 : RI R I0) (hq0 : (I0 o 7).toInt ≤ (I0 o 3).toInt) (hq1 : (I0 o 4).toInt = 0) (hq2 : (I0 o 8).toInt ≠ 0) (hq3 : ReS I0 o) (hq4 : MTd I0 o) (hq5 : MPo I0 o) (hq6 : MTk I0 o) (hR : RI R I0) (hp : ∀ (I' : Nat → Nat → Int32) (L' : Nat → Nat → Int64), RI R I' → Fm (fun c => c = o ∨ (o + 26 ≤ c ∧ c < o + 34)) I0 I' → ((I' o 7).toInt ≤ (I' o 3).toInt) → ((I0 o 7).toInt ≤ (I' o 7).toInt) → ((I0 o 4).toInt ≤ (I' o 4).toInt) → (7 * (I0 o 7).toInt - (I0 o 8).toInt + (I0 o 4).toInt ≤ 7 * (I' o 7).toInt - (I' o 8).toInt + (I' o 4).toInt) → (7 * (I0 o 7).toInt - (I0 o 8).toInt + (I0 o 4).toInt < 7 * (I' o 7).toInt - (I' o 8).toInt + (I' o 4).toInt) → (MTd I' o) → (MPo I' o) → (MTk I' o) → (ReG I' o) → post none (n, sh, Rf, I', L')) : Ev (qGG D cA b E) mModel_readReform 6 (0, 0) 0 (lv_args 0 [.ref o]) [] (n, sh, Rf, I0, L0) post := by
  have hf : Fm (fun c => c = o ∨ (o + 26 ≤ c ∧ c < o + 34)) I0 I0 := Fm.rf
  have g_1 : (0 : Int) ≤ (I0 o 3).toInt ∧ (I0 o 3).toInt ≤ 1600 := hR.at0 ra 3 (by decide)
  have g_2 : (0 : Int) ≤ (I0 o 4).toInt ∧ (I0 o 4).toInt ≤ 5 := hR.at0 ra 4 (by decide)
  have g_3 : (0 : Int) ≤ (I0 o 6).toInt ∧ (I0 o 6).toInt ≤ 1600 := hR.at0 ra 6 (by decide)
  have g_4 : (0 : Int) ≤ (I0 o 7).toInt ∧ (I0 o 7).toInt ≤ 1601 := hR.at0 ra 7 (by decide)
  have g_5 : (0 : Int) ≤ (I0 o 8).toInt ∧ (I0 o 8).toInt ≤ 6 := hR.at0 ra 8 (by decide)
  have g_6 : (0 : Int) ≤ (I0 o 44).toInt ∧ (I0 o 44).toInt ≤ 4 := hR.at0 ra 44 (by decide)
  have g_7 : (0 : Int) ≤ (I0 o 45).toInt ∧ (I0 o 45).toInt ≤ 700 := hR.at0 ra 45 (by decide)
  have g_8 : (0 : Int) ≤ (I0 o 47).toInt ∧ (I0 o 47).toInt ≤ 7 := hR.at0 ra 47 (by decide)
  have g_9 : (0 : Int) ≤ (I0 o 48).toInt ∧ (I0 o 48).toInt ≤ 80 := hR.at0 ra 48 (by decide)
  refine sModel_readReform_0 o n sh Rf I0 L0 post  hok hw ?_
  unfold fModel_readReform_0
  have r4 := hq3.1
  have l_10 : (1918989413 : Int32).toInt = 1918989413 := rfl
  refine y_Model_isWord hok hw ra hR (fun r_11 u_12 u_13 => ⟨r_11, I0, L0, rfl, rfl, ?_⟩)
  have b_14 : 0 ≤ r_11.toInt ∧ r_11.toInt ≤ 1 := u_12.rg
  have l_15 : (0 : Int32).toInt = 0 := rfl
  refine ⟨fun c_16 => ?_, fun c_16 => ?_⟩
  · have d_17 := iEq c_16
    have l_18 : (1668245870 : Int32).toInt = 1668245870 := rfl
    refine y_Model_isWord hok hw ra hR (fun r_19 u_20 u_21 => ⟨r_19, I0, L0, rfl, rfl, ?_⟩)
    have b_22 : 0 ≤ r_19.toInt ∧ r_19.toInt ≤ 1 := u_20.rg
    refine ⟨fun c_23 => ?_, fun c_23 => ?_⟩
    · have d_24 := iEq c_23
      have l_25 : (1836020596 : Int32).toInt = 1836020596 := rfl
      refine y_Model_isWord hok hw ra hR (fun r_26 u_27 u_28 => ⟨r_26, I0, L0, rfl, rfl, ?_⟩)
      have b_29 : 0 ≤ r_26.toInt ∧ r_26.toInt ≤ 1 := u_27.rg
      refine ⟨fun c_30 => ?_, fun c_30 => ?_⟩
      · have d_31 := iEq c_30
        have l_32 : (7627128 : Int32).toInt = 7627128 := rfl
        refine y_Model_isWord hok hw ra hR (fun r_33 u_34 u_35 => ⟨r_33, I0, L0, rfl, rfl, ?_⟩)
        have b_36 : 0 ≤ r_33.toInt ∧ r_33.toInt ≤ 1 := u_34.rg
        refine ⟨fun c_37 => ?_, fun c_37 => ?_⟩
        · have d_38 := iEq c_37
          refine y_Model_isWord hok hw ra hR (fun r_39 u_40 u_41 => ⟨r_39, I0, L0, rfl, rfl, ?_⟩)
          have b_42 : 0 ≤ r_39.toInt ∧ r_39.toInt ≤ 1 := u_40.rg
          refine ⟨fun c_43 => ?_, fun c_43 => ?_⟩
          · have d_44 := iEq c_43
            refine y_Model_isWord hok hw ra hR (fun r_45 u_46 u_47 => ⟨r_45, I0, L0, rfl, rfl, ?_⟩)
            have b_48 : 0 ≤ r_45.toInt ∧ r_45.toInt ≤ 1 := u_46.rg
            refine ⟨fun c_49 => ?_, fun c_49 => ?_⟩
            · have d_50 := iEq c_49
              unfold fModel_readReform_95
              have l_51 : (-1 : Int32).toInt = -1 := rfl
              refine ⟨fun c_52 => ?_, fun c_52 => ?_⟩
              · have d_53 := iLt c_52
                refine y_Model_wrong hok hw ra hz14 hz15 hR (fun I_57 L_58 hR_59 fr_60 kp_61 u_55 u_56 => ⟨I_57, L_58, rfl, rfl, ?_⟩)
                have hf_62 : Fm (fun c => c = o ∨ (o + 26 ≤ c ∧ c < o + 34)) I0 I_57 := hf.call fr_60 (fun c hc => by first | exact hc | (dsimp only at hc ⊢; omega) | omega)
                have t_63 : (I_57 o 3).toInt = (I0 o 3).toInt := by rw [kp_61 3 rfl]
                have g_64 : (0 : Int) ≤ (I_57 o 4).toInt ∧ (I_57 o 4).toInt ≤ 5 := hR_59.at0 ra 4 (by decide)
                have t_65 : (I_57 o 6).toInt = (I0 o 6).toInt := by rw [kp_61 6 rfl]
                have t_66 : (I_57 o 7).toInt = (I0 o 7).toInt := by rw [kp_61 7 rfl]
                have t_67 : (I_57 o 8).toInt = (I0 o 8).toInt := by rw [kp_61 8 rfl]
                have t_68 : (I_57 o 9).toInt = (I0 o 9).toInt := by rw [kp_61 9 rfl]
                have t_69 : (I_57 o 44).toInt = (I0 o 44).toInt := by rw [kp_61 44 rfl]
                have t_70 : (I_57 o 45).toInt = (I0 o 45).toInt := by rw [kp_61 45 rfl]
                have t_71 : (I_57 o 47).toInt = (I0 o 47).toInt := by rw [kp_61 47 rfl]
                have t_72 : (I_57 o 48).toInt = (I0 o 48).toInt := by rw [kp_61 48 rfl]
                have k_73 : ReS I_57 o := hq3.fr (fr_60 _ (by first | omega | (dsimp only; omega))) (fr_60 _ (by first | omega | (dsimp only; omega))) (fr_60 _ (by first | omega | (dsimp only; omega))) (kp_61 3 rfl) (kp_61 6 rfl) (kp_61 44 rfl) (kp_61 45 rfl)
                have k_74 : MTd I_57 o := hq4.fr (fr_60 _ (by first | omega | (dsimp only; omega))) (fr_60 _ (by first | omega | (dsimp only; omega))) (fr_60 _ (by first | omega | (dsimp only; omega)))
                have k_75 : MPo I_57 o := hq5.fr (kp_61 8 rfl) (kp_61 9 rfl)
                have k_76 : MTk I_57 o := hq6.fr (kp_61 6 rfl) (kp_61 7 rfl) (kp_61 8 rfl)
                have w_77 : I_57 (o + 28) = I0 (o + 28) := (fr_60 (o + 28) (by first | omega | (dsimp only; omega)))
                refine y_Model_isGood hok hw ra hR_59 (fun r_78 u_79 u_80 u_81 => ⟨r_78, I_57, L_58, rfl, rfl, ?_⟩)
                have b_82 : 0 ≤ r_78.toInt ∧ r_78.toInt ≤ 1 := u_79.rg
                refine ⟨fun c_83 => ?_, fun c_83 => ?_⟩
                · have d_84 := iNe c_83
                  have i_85 := u_80 (by omega)
                  have tk := k_76.1
                  refine y_Model_next hok hw ra hz16 hz17 hz18 hz19 (by first | omega | (intro h; omega) | exact Or.inl rfl | exact Or.inr rfl) hR_59 (fun I_95 L_96 hR_97 fr_98 kp_99 u_87 u_88 u_89 u_90 u_91 u_92 u_93 u_94 => ⟨I_95, L_96, rfl, rfl, ?_⟩)
                  have hf_100 : Fm (fun c => c = o ∨ (o + 26 ≤ c ∧ c < o + 34)) I0 I_95 := hf_62.call fr_98 (fun c hc => by first | exact hc | (dsimp only at hc ⊢; omega) | omega)
                  have t_101 : (I_95 o 3).toInt = (I_57 o 3).toInt := by rw [kp_99 3 rfl]
                  have t_102 : (I_95 o 4).toInt = (I_57 o 4).toInt := by rw [kp_99 4 rfl]
                  have g_103 : (0 : Int) ≤ (I_95 o 6).toInt ∧ (I_95 o 6).toInt ≤ 1600 := hR_97.at0 ra 6 (by decide)
                  have g_104 : (0 : Int) ≤ (I_95 o 7).toInt ∧ (I_95 o 7).toInt ≤ 1601 := hR_97.at0 ra 7 (by decide)
                  have g_105 : (0 : Int) ≤ (I_95 o 8).toInt ∧ (I_95 o 8).toInt ≤ 6 := hR_97.at0 ra 8 (by decide)
                  have t_106 : (I_95 o 44).toInt = (I_57 o 44).toInt := by rw [kp_99 44 rfl]
                  have t_107 : (I_95 o 45).toInt = (I_57 o 45).toInt := by rw [kp_99 45 rfl]
                  have t_108 : (I_95 o 47).toInt = (I_57 o 47).toInt := by rw [kp_99 47 rfl]
                  have t_109 : (I_95 o 48).toInt = (I_57 o 48).toInt := by rw [kp_99 48 rfl]
                  have k_110 : MTd I_95 o := k_74.fr (fr_98 _ (by first | omega | (dsimp only; omega))) (fr_98 _ (by first | omega | (dsimp only; omega))) (fr_98 _ (by first | omega | (dsimp only; omega)))
                  have w_111 : I_95 (o + 28) = I0 (o + 28) := (fr_98 (o + 28) (by first | omega | (dsimp only; omega))).trans w_77
                  have ms := u_90 (by omega)
                  have k_112 : ReS I_95 o := by exact ReS.at k_73 (fr_98 _ (by first | omega | (dsimp only; omega))) (fr_98 _ (by first | omega | (dsimp only; omega))) (fr_98 _ (by first | omega | (dsimp only; omega))) (kp_99 3 rfl) (by omega) (by omega) (kp_99 44 rfl) (kp_99 45 rfl)
                  refine fun I_113 e_114 => ?_
                  have hR_115 : RI R I_113 := hR_97.up0 (k := 49) ra (by decide) (Or.inr hz59) e_114 (i_lo _) (i_hi _)
                  have hf_116 : Fm (fun c => c = o ∨ (o + 26 ≤ c ∧ c < o + 34)) I0 I_113 := hf_100.set (by first | rfl | omega | (dsimp only; omega)) e_114
                  have t_117 : (I_113 o 3).toInt = (I_95 o 3).toInt := by rw [← e_114, q_u_k (by decide)]
                  have t_118 : (I_113 o 4).toInt = (I_95 o 4).toInt := by rw [← e_114, q_u_k (by decide)]
                  have t_119 : (I_113 o 6).toInt = (I_95 o 6).toInt := by rw [← e_114, q_u_k (by decide)]
                  have t_120 : (I_113 o 7).toInt = (I_95 o 7).toInt := by rw [← e_114, q_u_k (by decide)]
                  have t_121 : (I_113 o 8).toInt = (I_95 o 8).toInt := by rw [← e_114, q_u_k (by decide)]
                  have t_122 : (I_113 o 9).toInt = (I_95 o 9).toInt := by rw [← e_114, q_u_k (by decide)]
                  have t_123 : (I_113 o 44).toInt = (I_95 o 44).toInt := by rw [← e_114, q_u_k (by decide)]
                  have t_124 : (I_113 o 45).toInt = (I_95 o 45).toInt := by rw [← e_114, q_u_k (by decide)]
                  have t_125 : (I_113 o 47).toInt = (I_95 o 47).toInt := by rw [← e_114, q_u_k (by decide)]
                  have t_126 : (I_113 o 48).toInt = (I_95 o 48).toInt := by rw [← e_114, q_u_k (by decide)]
                  have k_127 : MTd I_113 o := k_110.fr (by rw [← e_114]; exact q_u_ne (by omega)) (by rw [← e_114]; exact q_u_ne (by omega)) (by rw [← e_114]; exact q_u_ne (by omega))
                  have k_128 : MPo I_113 o := u_93.fr (by rw [← e_114, q_u_k (by decide)]) (by rw [← e_114, q_u_k (by decide)])
                  have k_129 : MTk I_113 o := u_94.fr (by rw [← e_114, q_u_k (by decide)]) (by rw [← e_114, q_u_k (by decide)]) (by rw [← e_114, q_u_k (by decide)])
                  have k_130 : ReS I_113 o := k_112.fr (by rw [← e_114]; exact q_u_ne (by omega)) (by rw [← e_114]; exact q_u_ne (by omega)) (by rw [← e_114]; exact q_u_ne (by omega)) (by rw [← e_114, q_u_k (by decide)]) (by rw [← e_114, q_u_k (by decide)]) (by rw [← e_114, q_u_k (by decide)]) (by rw [← e_114, q_u_k (by decide)])
                  have w_131 : I_113 (o + 28) = I0 (o + 28) := by rw [← e_114, q_u_ne (by omega)]; exact w_111
                  have g_132 : (0 : Int) ≤ (I_113 o 45).toInt ∧ (I_113 o 45).toInt ≤ 700 := hR_115.at0 ra 45 (by decide)
                  refine y_Model_e hok hw ra hz14 hz15 hz16 hz17 hz18 hz19 hz55 hz56 hz57 hz58 (by first | omega | (intro h; omega) | exact Or.inl rfl | exact Or.inr rfl) (by first | omega | (intro h; omega) | exact Or.inl rfl | exact Or.inr rfl) k_130 k_127 k_128 k_129 hR_115 (fun I_142 L_143 hR_144 fr_145 kp_146 u_134 u_135 u_136 u_137 u_138 u_139 u_140 u_141 => ⟨I_142, L_143, rfl, rfl, ?_⟩)
                  have hf_147 : Fm (fun c => c = o ∨ (o + 26 ≤ c ∧ c < o + 34)) I0 I_142 := hf_116.call fr_145 (fun c hc => by first | exact hc | (dsimp only at hc ⊢; omega) | omega)
                  have t_148 : (I_142 o 3).toInt = (I_113 o 3).toInt := by rw [kp_146 3 rfl]
                  have g_149 : (0 : Int) ≤ (I_142 o 4).toInt ∧ (I_142 o 4).toInt ≤ 5 := hR_144.at0 ra 4 (by decide)
                  have g_150 : (0 : Int) ≤ (I_142 o 6).toInt ∧ (I_142 o 6).toInt ≤ 1600 := hR_144.at0 ra 6 (by decide)
                  have g_151 : (0 : Int) ≤ (I_142 o 7).toInt ∧ (I_142 o 7).toInt ≤ 1601 := hR_144.at0 ra 7 (by decide)
                  have g_152 : (0 : Int) ≤ (I_142 o 8).toInt ∧ (I_142 o 8).toInt ≤ 6 := hR_144.at0 ra 8 (by decide)
                  have t_153 : (I_142 o 44).toInt = (I_113 o 44).toInt := by rw [kp_146 44 rfl]
                  have g_154 : (0 : Int) ≤ (I_142 o 45).toInt ∧ (I_142 o 45).toInt ≤ 700 := hR_144.at0 ra 45 (by decide)
                  have g_155 : (0 : Int) ≤ (I_142 o 47).toInt ∧ (I_142 o 47).toInt ≤ 7 := hR_144.at0 ra 47 (by decide)
                  have g_156 : (0 : Int) ≤ (I_142 o 48).toInt ∧ (I_142 o 48).toInt ≤ 80 := hR_144.at0 ra 48 (by decide)
                  have w_157 : I_142 (o + 28) = I0 (o + 28) := (fr_145 (o + 28) (by first | omega | (dsimp only; omega))).trans w_131
                  have l_158 : (59 : Int32).toInt = 59 := rfl
                  refine y_Model_is hok hw ra hR_144 (fun r_159 u_160 u_161 u_162 => ⟨r_159, I_142, L_143, rfl, rfl, ?_⟩)
                  have b_163 : 0 ≤ r_159.toInt ∧ r_159.toInt ≤ 1 := u_160.rg
                  refine y_Model_must hok hw ra hz14 hz15 hz16 hz17 hz18 hz19 (by first | omega | (intro h; omega) | exact Or.inl rfl | exact Or.inr rfl) u_140 u_141 hR_144 (fun I_174 L_175 hR_176 fr_177 kp_178 u_165 u_166 u_167 u_168 u_169 u_170 u_171 u_172 u_173 => ⟨I_174, L_175, rfl, rfl, ?_⟩)
                  have hf_179 : Fm (fun c => c = o ∨ (o + 26 ≤ c ∧ c < o + 34)) I0 I_174 := hf_147.call fr_177 (fun c hc => by first | exact hc | (dsimp only at hc ⊢; omega) | omega)
                  have t_180 : (I_174 o 3).toInt = (I_142 o 3).toInt := by rw [kp_178 3 rfl]
                  have g_181 : (0 : Int) ≤ (I_174 o 4).toInt ∧ (I_174 o 4).toInt ≤ 5 := hR_176.at0 ra 4 (by decide)
                  have g_182 : (0 : Int) ≤ (I_174 o 6).toInt ∧ (I_174 o 6).toInt ≤ 1600 := hR_176.at0 ra 6 (by decide)
                  have g_183 : (0 : Int) ≤ (I_174 o 7).toInt ∧ (I_174 o 7).toInt ≤ 1601 := hR_176.at0 ra 7 (by decide)
                  have g_184 : (0 : Int) ≤ (I_174 o 8).toInt ∧ (I_174 o 8).toInt ≤ 6 := hR_176.at0 ra 8 (by decide)
                  have t_185 : (I_174 o 44).toInt = (I_142 o 44).toInt := by rw [kp_178 44 rfl]
                  have t_186 : (I_174 o 45).toInt = (I_142 o 45).toInt := by rw [kp_178 45 rfl]
                  have t_187 : (I_174 o 47).toInt = (I_142 o 47).toInt := by rw [kp_178 47 rfl]
                  have t_188 : (I_174 o 48).toInt = (I_142 o 48).toInt := by rw [kp_178 48 rfl]
                  have k_189 : MTd I_174 o := u_139.fr (fr_177 _ (by first | omega | (dsimp only; omega))) (fr_177 _ (by first | omega | (dsimp only; omega))) (fr_177 _ (by first | omega | (dsimp only; omega)))
                  have w_190 : I_174 (o + 28) = I0 (o + 28) := (fr_177 (o + 28) (by first | omega | (dsimp only; omega))).trans w_157
                  have hm26 := fr_177 (o + 26) (by first | omega | (dsimp only; omega))
                  have hm27 := fr_177 (o + 27) (by first | omega | (dsimp only; omega))
                  have hm30 := fr_177 (o + 30) (by first | omega | (dsimp only; omega))
                  have hm3 := kp_178 3 rfl
                  have hm44 := kp_178 44 rfl
                  have hm45 := kp_178 45 rfl
                  have tk2 := u_173.1
                  have g_191 : (0 : Int) ≤ (I_174 o 44).toInt ∧ (I_174 o 44).toInt ≤ 4 := hR_176.at0 ra 44 (by decide)
                  have l_192 : (10 : Int32).toInt = 10 := rfl
                  have a_193 : (10 * (I_174 o 44)).toInt = 10 * (I_174 o 44).toInt := tMulL rfl (by omega) (by omega)
                  have a_194 : ((10 * (I_174 o 44)) + (-1 : Int32)).toInt = (10 * (I_174 o 44)).toInt + (-1 : Int32).toInt := tAdd (by omega) (by omega)
                  refine ⟨tIn (by omega) (by omega), fun I_195 e_196 => ?_⟩
                  have hR_197 : RI R I_195 := hR_176.up ra 26 (by decide) (Or.inl rfl) e_196 (show (-1 : Int) ≤ (I_113 o 45).toInt by omega) (show (I_113 o 45).toInt ≤ (700 : Int) by omega)
                  have hf_198 : Fm (fun c => c = o ∨ (o + 26 ≤ c ∧ c < o + 34)) I0 I_195 := hf_179.set (by first | rfl | omega | (dsimp only; omega)) e_196
                  have t_199 : (I_195 o 3).toInt = (I_174 o 3).toInt := by rw [← e_196, q_u_ne (by omega)]
                  have t_200 : (I_195 o 4).toInt = (I_174 o 4).toInt := by rw [← e_196, q_u_ne (by omega)]
                  have t_201 : (I_195 o 6).toInt = (I_174 o 6).toInt := by rw [← e_196, q_u_ne (by omega)]
                  have t_202 : (I_195 o 7).toInt = (I_174 o 7).toInt := by rw [← e_196, q_u_ne (by omega)]
                  have t_203 : (I_195 o 8).toInt = (I_174 o 8).toInt := by rw [← e_196, q_u_ne (by omega)]
                  have t_204 : (I_195 o 9).toInt = (I_174 o 9).toInt := by rw [← e_196, q_u_ne (by omega)]
                  have t_205 : (I_195 o 44).toInt = (I_174 o 44).toInt := by rw [← e_196, q_u_ne (by omega)]
                  have t_206 : (I_195 o 45).toInt = (I_174 o 45).toInt := by rw [← e_196, q_u_ne (by omega)]
                  have t_207 : (I_195 o 47).toInt = (I_174 o 47).toInt := by rw [← e_196, q_u_ne (by omega)]
                  have t_208 : (I_195 o 48).toInt = (I_174 o 48).toInt := by rw [← e_196, q_u_ne (by omega)]
                  have k_210 : MPo I_195 o := u_172.fr (by rw [← e_196, q_u_ne (by omega)]) (by rw [← e_196, q_u_ne (by omega)])
                  have k_211 : MTk I_195 o := u_173.fr (by rw [← e_196, q_u_ne (by omega)]) (by rw [← e_196, q_u_ne (by omega)]) (by rw [← e_196, q_u_ne (by omega)])
                  have w_212 : I_195 (o + 28) = I0 (o + 28) := by rw [← e_196, q_u_ne (by omega)]; exact w_190
                  have k_213 : MTd I_195 o := by exact MTd.p26 k_189 e_196 (by omega)
                  have g_214 : (0 : Int) ≤ (I_195 o 44).toInt ∧ (I_195 o 44).toInt ≤ 4 := hR_197.at0 ra 44 (by decide)
                  have a_215 : (10 * (I_195 o 44)).toInt = 10 * (I_195 o 44).toInt := tMulL rfl (by omega) (by omega)
                  have a_216 : ((10 * (I_195 o 44)) + (-1 : Int32)).toInt = (10 * (I_195 o 44)).toInt + (-1 : Int32).toInt := tAdd (by omega) (by omega)
                  have g_217 : (0 : Int) ≤ (I_195 o 45).toInt ∧ (I_195 o 45).toInt ≤ 700 := hR_197.at0 ra 45 (by decide)
                  refine ⟨tIn (by omega) (by omega), fun I_218 e_219 => ?_⟩
                  have hR_220 : RI R I_218 := hR_197.up ra 27 (by decide) (Or.inl rfl) e_219 (show (0 : Int) ≤ (I_195 o 45).toInt by omega) (show (I_195 o 45).toInt ≤ (700 : Int) by omega)
                  have hf_221 : Fm (fun c => c = o ∨ (o + 26 ≤ c ∧ c < o + 34)) I0 I_218 := hf_198.set (by first | rfl | omega | (dsimp only; omega)) e_219
                  have t_222 : (I_218 o 3).toInt = (I_195 o 3).toInt := by rw [← e_219, q_u_ne (by omega)]
                  have t_223 : (I_218 o 4).toInt = (I_195 o 4).toInt := by rw [← e_219, q_u_ne (by omega)]
                  have t_224 : (I_218 o 6).toInt = (I_195 o 6).toInt := by rw [← e_219, q_u_ne (by omega)]
                  have t_225 : (I_218 o 7).toInt = (I_195 o 7).toInt := by rw [← e_219, q_u_ne (by omega)]
                  have t_226 : (I_218 o 8).toInt = (I_195 o 8).toInt := by rw [← e_219, q_u_ne (by omega)]
                  have t_227 : (I_218 o 9).toInt = (I_195 o 9).toInt := by rw [← e_219, q_u_ne (by omega)]
                  have t_228 : (I_218 o 44).toInt = (I_195 o 44).toInt := by rw [← e_219, q_u_ne (by omega)]
                  have t_229 : (I_218 o 45).toInt = (I_195 o 45).toInt := by rw [← e_219, q_u_ne (by omega)]
                  have t_230 : (I_218 o 47).toInt = (I_195 o 47).toInt := by rw [← e_219, q_u_ne (by omega)]
                  have t_231 : (I_218 o 48).toInt = (I_195 o 48).toInt := by rw [← e_219, q_u_ne (by omega)]
                  have k_232 : MPo I_218 o := k_210.fr (by rw [← e_219, q_u_ne (by omega)]) (by rw [← e_219, q_u_ne (by omega)])
                  have k_233 : MTk I_218 o := k_211.fr (by rw [← e_219, q_u_ne (by omega)]) (by rw [← e_219, q_u_ne (by omega)]) (by rw [← e_219, q_u_ne (by omega)])
                  have w_235 : I_218 (o + 28) = I0 (o + 28) := by rw [← e_219, q_u_ne (by omega)]; exact w_212
                  have k_236 : MTd I_218 o := by exact MTd.p27 k_213 e_219 (by omega)
                  have k_237 : ReG I_218 o := by intro h; exact ReS.put (u_138 (by omega)) (by omega) hm26 hm27 hm30 hm3 hm44 hm45 (by omega) (by omega) e_196 e_219 (by omega) (by omega)
                  have l_238 : (5 : Int32).toInt = 5 := rfl
                  refine ⟨fun c_239 => ?_, fun c_239 => ?_⟩
                  · have d_240 := iLt c_239
                    unfold fModel_readReform_228
                    have g_241 : (0 : Int) ≤ (I_218 o 44).toInt ∧ (I_218 o 44).toInt ≤ 4 := hR_220.at0 ra 44 (by decide)
                    refine ⟨tIn (by omega) (by omega), ?_⟩
                    refine ⟨tIn (by omega) (by omega), fun I_242 e_243 => ?_⟩
                    have hR_244 : RI R I_242 := hR_220.up ra 29 (by decide) (Or.inl rfl) e_243 (i_lo _) (i_hi _)
                    have hf_245 : Fm (fun c => c = o ∨ (o + 26 ≤ c ∧ c < o + 34)) I0 I_242 := hf_221.set (by first | rfl | omega | (dsimp only; omega)) e_243
                    have t_246 : (I_242 o 3).toInt = (I_218 o 3).toInt := by rw [← e_243, q_u_ne (by omega)]
                    have t_247 : (I_242 o 4).toInt = (I_218 o 4).toInt := by rw [← e_243, q_u_ne (by omega)]
                    have t_248 : (I_242 o 6).toInt = (I_218 o 6).toInt := by rw [← e_243, q_u_ne (by omega)]
                    have t_249 : (I_242 o 7).toInt = (I_218 o 7).toInt := by rw [← e_243, q_u_ne (by omega)]
                    have t_250 : (I_242 o 8).toInt = (I_218 o 8).toInt := by rw [← e_243, q_u_ne (by omega)]
                    have t_251 : (I_242 o 9).toInt = (I_218 o 9).toInt := by rw [← e_243, q_u_ne (by omega)]
                    have t_252 : (I_242 o 44).toInt = (I_218 o 44).toInt := by rw [← e_243, q_u_ne (by omega)]
                    have t_253 : (I_242 o 45).toInt = (I_218 o 45).toInt := by rw [← e_243, q_u_ne (by omega)]
                    have t_254 : (I_242 o 47).toInt = (I_218 o 47).toInt := by rw [← e_243, q_u_ne (by omega)]
                    have t_255 : (I_242 o 48).toInt = (I_218 o 48).toInt := by rw [← e_243, q_u_ne (by omega)]
                    have k_256 : MPo I_242 o := k_232.fr (by rw [← e_243, q_u_ne (by omega)]) (by rw [← e_243, q_u_ne (by omega)])
                    have k_257 : MTk I_242 o := k_233.fr (by rw [← e_243, q_u_ne (by omega)]) (by rw [← e_243, q_u_ne (by omega)]) (by rw [← e_243, q_u_ne (by omega)])
                    have k_258 : MTd I_242 o := k_236.fr (by rw [← e_243]; exact q_u_ne (by omega)) (by rw [← e_243]; exact q_u_ne (by omega)) (by rw [← e_243]; exact q_u_ne (by omega))
                    have k_259 : ReG I_242 o := k_237.fr (by rw [← e_243]; exact q_u_ne (by omega)) (by rw [← e_243]; exact q_u_ne (by omega)) (by rw [← e_243]; exact q_u_ne (by omega)) (by rw [← e_243, q_u_ne (by omega)]) (by rw [← e_243, q_u_ne (by omega)]) (by rw [← e_243, q_u_ne (by omega)]) (by rw [← e_243, q_u_ne (by omega)]) (by rw [← e_243, q_u_ne (by omega)])
                    have w_260 : I_242 (o + 28) = I0 (o + 28) := by rw [← e_243, q_u_ne (by omega)]; exact w_235
                    exact (hp _ _ hR_244 hf_245 (by first | omega | (intro h; omega) | exact Or.inl rfl | exact Or.inr rfl) (by first | omega | (intro h; omega) | exact Or.inl rfl | exact Or.inr rfl) (by first | omega | (intro h; omega) | exact Or.inl rfl | exact Or.inr rfl) (by first | omega | (intro h; omega) | exact Or.inl rfl | exact Or.inr rfl) (by first | omega | (intro h; omega) | exact Or.inl rfl | exact Or.inr rfl) k_258 k_256 k_257 k_259)
                  · have d_261 := iNlt c_239
                    exfalso; omega
                · have d_262 := iEq c_83
                  have i_263 := u_81 (by omega)
                  exact (hp _ _ hR_59 hf_62 (by first | omega | (intro h; omega) | exact Or.inl rfl | exact Or.inr rfl) (by first | omega | (intro h; omega) | exact Or.inl rfl | exact Or.inr rfl) (by first | omega | (intro h; omega) | exact Or.inl rfl | exact Or.inr rfl) (by first | omega | (intro h; omega) | exact Or.inl rfl | exact Or.inr rfl) (by first | omega | (intro h; omega) | exact Or.inl rfl | exact Or.inr rfl) k_74 k_75 k_76 (fun h => absurd h (by omega)))
              · have d_264 := iNlt c_52
                exfalso; omega
            · have d_265 := iNe c_49
              have i_266 := u_47 (by omega)
              have g_267 : (0 : Int) ≤ (I0 o 44).toInt ∧ (I0 o 44).toInt ≤ 4 := hR.at0 ra 44 (by decide)
              refine ⟨tIn (by omega) (by omega), ?_⟩
              have g_268 : (0 : Int) ≤ (I0 (o + 28) ((I0 o 44) : Int32).toNatClampNeg).toInt ∧ (I0 (o + 28) ((I0 o 44) : Int32).toNatClampNeg).toInt ≤ 5 := hR.at ra 28 _ (by decide)
              have l_269 : (5 : Int32).toInt = 5 := rfl
              have a_270 : (5 + (I0 (o + 28) ((I0 o 44) : Int32).toNatClampNeg)).toInt = (5 : Int32).toInt + (I0 (o + 28) ((I0 o 44) : Int32).toNatClampNeg).toInt := tAdd (by omega) (by omega)
              unfold fModel_readReform_95
              refine ⟨fun c_271 => ?_, fun c_271 => ?_⟩
              · have d_272 := iLt c_271
                exfalso; omega
              · have d_273 := iNlt c_271
                have l_274 : (10 : Int32).toInt = 10 := rfl
                refine ⟨fun c_275 => ?_, fun c_275 => ?_⟩
                · have d_276 := iEq c_275
                  refine y_Model_wrong hok hw ra hz14 hz15 hR (fun I_280 L_281 hR_282 fr_283 kp_284 u_278 u_279 => ⟨I_280, L_281, rfl, rfl, ?_⟩)
                  have hf_285 : Fm (fun c => c = o ∨ (o + 26 ≤ c ∧ c < o + 34)) I0 I_280 := hf.call fr_283 (fun c hc => by first | exact hc | (dsimp only at hc ⊢; omega) | omega)
                  have t_286 : (I_280 o 3).toInt = (I0 o 3).toInt := by rw [kp_284 3 rfl]
                  have g_287 : (0 : Int) ≤ (I_280 o 4).toInt ∧ (I_280 o 4).toInt ≤ 5 := hR_282.at0 ra 4 (by decide)
                  have t_288 : (I_280 o 6).toInt = (I0 o 6).toInt := by rw [kp_284 6 rfl]
                  have t_289 : (I_280 o 7).toInt = (I0 o 7).toInt := by rw [kp_284 7 rfl]
                  have t_290 : (I_280 o 8).toInt = (I0 o 8).toInt := by rw [kp_284 8 rfl]
                  have t_291 : (I_280 o 9).toInt = (I0 o 9).toInt := by rw [kp_284 9 rfl]
                  have t_292 : (I_280 o 44).toInt = (I0 o 44).toInt := by rw [kp_284 44 rfl]
                  have t_293 : (I_280 o 45).toInt = (I0 o 45).toInt := by rw [kp_284 45 rfl]
                  have t_294 : (I_280 o 47).toInt = (I0 o 47).toInt := by rw [kp_284 47 rfl]
                  have t_295 : (I_280 o 48).toInt = (I0 o 48).toInt := by rw [kp_284 48 rfl]
                  have k_296 : ReS I_280 o := hq3.fr (fr_283 _ (by first | omega | (dsimp only; omega))) (fr_283 _ (by first | omega | (dsimp only; omega))) (fr_283 _ (by first | omega | (dsimp only; omega))) (kp_284 3 rfl) (kp_284 6 rfl) (kp_284 44 rfl) (kp_284 45 rfl)
                  have k_297 : MTd I_280 o := hq4.fr (fr_283 _ (by first | omega | (dsimp only; omega))) (fr_283 _ (by first | omega | (dsimp only; omega))) (fr_283 _ (by first | omega | (dsimp only; omega)))
                  have k_298 : MPo I_280 o := hq5.fr (kp_284 8 rfl) (kp_284 9 rfl)
                  have k_299 : MTk I_280 o := hq6.fr (kp_284 6 rfl) (kp_284 7 rfl) (kp_284 8 rfl)
                  have w_300 : I_280 (o + 28) = I0 (o + 28) := (fr_283 (o + 28) (by first | omega | (dsimp only; omega)))
                  refine y_Model_isGood hok hw ra hR_282 (fun r_301 u_302 u_303 u_304 => ⟨r_301, I_280, L_281, rfl, rfl, ?_⟩)
                  have b_305 : 0 ≤ r_301.toInt ∧ r_301.toInt ≤ 1 := u_302.rg
                  refine ⟨fun c_306 => ?_, fun c_306 => ?_⟩
                  · have d_307 := iNe c_306
                    have i_308 := u_303 (by omega)
                    have tk := k_299.1
                    refine y_Model_next hok hw ra hz16 hz17 hz18 hz19 (by first | omega | (intro h; omega) | exact Or.inl rfl | exact Or.inr rfl) hR_282 (fun I_318 L_319 hR_320 fr_321 kp_322 u_310 u_311 u_312 u_313 u_314 u_315 u_316 u_317 => ⟨I_318, L_319, rfl, rfl, ?_⟩)
                    have hf_323 : Fm (fun c => c = o ∨ (o + 26 ≤ c ∧ c < o + 34)) I0 I_318 := hf_285.call fr_321 (fun c hc => by first | exact hc | (dsimp only at hc ⊢; omega) | omega)
                    have t_324 : (I_318 o 3).toInt = (I_280 o 3).toInt := by rw [kp_322 3 rfl]
                    have t_325 : (I_318 o 4).toInt = (I_280 o 4).toInt := by rw [kp_322 4 rfl]
                    have g_326 : (0 : Int) ≤ (I_318 o 6).toInt ∧ (I_318 o 6).toInt ≤ 1600 := hR_320.at0 ra 6 (by decide)
                    have g_327 : (0 : Int) ≤ (I_318 o 7).toInt ∧ (I_318 o 7).toInt ≤ 1601 := hR_320.at0 ra 7 (by decide)
                    have g_328 : (0 : Int) ≤ (I_318 o 8).toInt ∧ (I_318 o 8).toInt ≤ 6 := hR_320.at0 ra 8 (by decide)
                    have t_329 : (I_318 o 44).toInt = (I_280 o 44).toInt := by rw [kp_322 44 rfl]
                    have t_330 : (I_318 o 45).toInt = (I_280 o 45).toInt := by rw [kp_322 45 rfl]
                    have t_331 : (I_318 o 47).toInt = (I_280 o 47).toInt := by rw [kp_322 47 rfl]
                    have t_332 : (I_318 o 48).toInt = (I_280 o 48).toInt := by rw [kp_322 48 rfl]
                    have k_333 : MTd I_318 o := k_297.fr (fr_321 _ (by first | omega | (dsimp only; omega))) (fr_321 _ (by first | omega | (dsimp only; omega))) (fr_321 _ (by first | omega | (dsimp only; omega)))
                    have w_334 : I_318 (o + 28) = I0 (o + 28) := (fr_321 (o + 28) (by first | omega | (dsimp only; omega))).trans w_300
                    have ms := u_313 (by omega)
                    have k_335 : ReS I_318 o := by exact ReS.at k_296 (fr_321 _ (by first | omega | (dsimp only; omega))) (fr_321 _ (by first | omega | (dsimp only; omega))) (fr_321 _ (by first | omega | (dsimp only; omega))) (kp_322 3 rfl) (by omega) (by omega) (kp_322 44 rfl) (kp_322 45 rfl)
                    refine fun I_336 e_337 => ?_
                    have hR_338 : RI R I_336 := hR_320.up0 (k := 49) ra (by decide) (Or.inr hz59) e_337 (i_lo _) (i_hi _)
                    have hf_339 : Fm (fun c => c = o ∨ (o + 26 ≤ c ∧ c < o + 34)) I0 I_336 := hf_323.set (by first | rfl | omega | (dsimp only; omega)) e_337
                    have t_340 : (I_336 o 3).toInt = (I_318 o 3).toInt := by rw [← e_337, q_u_k (by decide)]
                    have t_341 : (I_336 o 4).toInt = (I_318 o 4).toInt := by rw [← e_337, q_u_k (by decide)]
                    have t_342 : (I_336 o 6).toInt = (I_318 o 6).toInt := by rw [← e_337, q_u_k (by decide)]
                    have t_343 : (I_336 o 7).toInt = (I_318 o 7).toInt := by rw [← e_337, q_u_k (by decide)]
                    have t_344 : (I_336 o 8).toInt = (I_318 o 8).toInt := by rw [← e_337, q_u_k (by decide)]
                    have t_345 : (I_336 o 9).toInt = (I_318 o 9).toInt := by rw [← e_337, q_u_k (by decide)]
                    have t_346 : (I_336 o 44).toInt = (I_318 o 44).toInt := by rw [← e_337, q_u_k (by decide)]
                    have t_347 : (I_336 o 45).toInt = (I_318 o 45).toInt := by rw [← e_337, q_u_k (by decide)]
                    have t_348 : (I_336 o 47).toInt = (I_318 o 47).toInt := by rw [← e_337, q_u_k (by decide)]
                    have t_349 : (I_336 o 48).toInt = (I_318 o 48).toInt := by rw [← e_337, q_u_k (by decide)]
                    have k_350 : MTd I_336 o := k_333.fr (by rw [← e_337]; exact q_u_ne (by omega)) (by rw [← e_337]; exact q_u_ne (by omega)) (by rw [← e_337]; exact q_u_ne (by omega))
                    have k_351 : MPo I_336 o := u_316.fr (by rw [← e_337, q_u_k (by decide)]) (by rw [← e_337, q_u_k (by decide)])
                    have k_352 : MTk I_336 o := u_317.fr (by rw [← e_337, q_u_k (by decide)]) (by rw [← e_337, q_u_k (by decide)]) (by rw [← e_337, q_u_k (by decide)])
                    have k_353 : ReS I_336 o := k_335.fr (by rw [← e_337]; exact q_u_ne (by omega)) (by rw [← e_337]; exact q_u_ne (by omega)) (by rw [← e_337]; exact q_u_ne (by omega)) (by rw [← e_337, q_u_k (by decide)]) (by rw [← e_337, q_u_k (by decide)]) (by rw [← e_337, q_u_k (by decide)]) (by rw [← e_337, q_u_k (by decide)])
                    have w_354 : I_336 (o + 28) = I0 (o + 28) := by rw [← e_337, q_u_ne (by omega)]; exact w_334
                    have g_355 : (0 : Int) ≤ (I_336 o 45).toInt ∧ (I_336 o 45).toInt ≤ 700 := hR_338.at0 ra 45 (by decide)
                    refine y_Model_e hok hw ra hz14 hz15 hz16 hz17 hz18 hz19 hz55 hz56 hz57 hz58 (by first | omega | (intro h; omega) | exact Or.inl rfl | exact Or.inr rfl) (by first | omega | (intro h; omega) | exact Or.inl rfl | exact Or.inr rfl) k_353 k_350 k_351 k_352 hR_338 (fun I_365 L_366 hR_367 fr_368 kp_369 u_357 u_358 u_359 u_360 u_361 u_362 u_363 u_364 => ⟨I_365, L_366, rfl, rfl, ?_⟩)
                    have hf_370 : Fm (fun c => c = o ∨ (o + 26 ≤ c ∧ c < o + 34)) I0 I_365 := hf_339.call fr_368 (fun c hc => by first | exact hc | (dsimp only at hc ⊢; omega) | omega)
                    have t_371 : (I_365 o 3).toInt = (I_336 o 3).toInt := by rw [kp_369 3 rfl]
                    have g_372 : (0 : Int) ≤ (I_365 o 4).toInt ∧ (I_365 o 4).toInt ≤ 5 := hR_367.at0 ra 4 (by decide)
                    have g_373 : (0 : Int) ≤ (I_365 o 6).toInt ∧ (I_365 o 6).toInt ≤ 1600 := hR_367.at0 ra 6 (by decide)
                    have g_374 : (0 : Int) ≤ (I_365 o 7).toInt ∧ (I_365 o 7).toInt ≤ 1601 := hR_367.at0 ra 7 (by decide)
                    have g_375 : (0 : Int) ≤ (I_365 o 8).toInt ∧ (I_365 o 8).toInt ≤ 6 := hR_367.at0 ra 8 (by decide)
                    have t_376 : (I_365 o 44).toInt = (I_336 o 44).toInt := by rw [kp_369 44 rfl]
                    have g_377 : (0 : Int) ≤ (I_365 o 45).toInt ∧ (I_365 o 45).toInt ≤ 700 := hR_367.at0 ra 45 (by decide)
                    have g_378 : (0 : Int) ≤ (I_365 o 47).toInt ∧ (I_365 o 47).toInt ≤ 7 := hR_367.at0 ra 47 (by decide)
                    have g_379 : (0 : Int) ≤ (I_365 o 48).toInt ∧ (I_365 o 48).toInt ≤ 80 := hR_367.at0 ra 48 (by decide)
                    have w_380 : I_365 (o + 28) = I0 (o + 28) := (fr_368 (o + 28) (by first | omega | (dsimp only; omega))).trans w_354
                    have l_381 : (59 : Int32).toInt = 59 := rfl
                    refine y_Model_is hok hw ra hR_367 (fun r_382 u_383 u_384 u_385 => ⟨r_382, I_365, L_366, rfl, rfl, ?_⟩)
                    have b_386 : 0 ≤ r_382.toInt ∧ r_382.toInt ≤ 1 := u_383.rg
                    refine y_Model_must hok hw ra hz14 hz15 hz16 hz17 hz18 hz19 (by first | omega | (intro h; omega) | exact Or.inl rfl | exact Or.inr rfl) u_363 u_364 hR_367 (fun I_397 L_398 hR_399 fr_400 kp_401 u_388 u_389 u_390 u_391 u_392 u_393 u_394 u_395 u_396 => ⟨I_397, L_398, rfl, rfl, ?_⟩)
                    have hf_402 : Fm (fun c => c = o ∨ (o + 26 ≤ c ∧ c < o + 34)) I0 I_397 := hf_370.call fr_400 (fun c hc => by first | exact hc | (dsimp only at hc ⊢; omega) | omega)
                    have t_403 : (I_397 o 3).toInt = (I_365 o 3).toInt := by rw [kp_401 3 rfl]
                    have g_404 : (0 : Int) ≤ (I_397 o 4).toInt ∧ (I_397 o 4).toInt ≤ 5 := hR_399.at0 ra 4 (by decide)
                    have g_405 : (0 : Int) ≤ (I_397 o 6).toInt ∧ (I_397 o 6).toInt ≤ 1600 := hR_399.at0 ra 6 (by decide)
                    have g_406 : (0 : Int) ≤ (I_397 o 7).toInt ∧ (I_397 o 7).toInt ≤ 1601 := hR_399.at0 ra 7 (by decide)
                    have g_407 : (0 : Int) ≤ (I_397 o 8).toInt ∧ (I_397 o 8).toInt ≤ 6 := hR_399.at0 ra 8 (by decide)
                    have t_408 : (I_397 o 44).toInt = (I_365 o 44).toInt := by rw [kp_401 44 rfl]
                    have t_409 : (I_397 o 45).toInt = (I_365 o 45).toInt := by rw [kp_401 45 rfl]
                    have t_410 : (I_397 o 47).toInt = (I_365 o 47).toInt := by rw [kp_401 47 rfl]
                    have t_411 : (I_397 o 48).toInt = (I_365 o 48).toInt := by rw [kp_401 48 rfl]
                    have k_412 : MTd I_397 o := u_362.fr (fr_400 _ (by first | omega | (dsimp only; omega))) (fr_400 _ (by first | omega | (dsimp only; omega))) (fr_400 _ (by first | omega | (dsimp only; omega)))
                    have w_413 : I_397 (o + 28) = I0 (o + 28) := (fr_400 (o + 28) (by first | omega | (dsimp only; omega))).trans w_380
                    have hm26 := fr_400 (o + 26) (by first | omega | (dsimp only; omega))
                    have hm27 := fr_400 (o + 27) (by first | omega | (dsimp only; omega))
                    have hm30 := fr_400 (o + 30) (by first | omega | (dsimp only; omega))
                    have hm3 := kp_401 3 rfl
                    have hm44 := kp_401 44 rfl
                    have hm45 := kp_401 45 rfl
                    have tk2 := u_396.1
                    have g_414 : (0 : Int) ≤ (I_397 o 44).toInt ∧ (I_397 o 44).toInt ≤ 4 := hR_399.at0 ra 44 (by decide)
                    have a_415 : (10 * (I_397 o 44)).toInt = 10 * (I_397 o 44).toInt := tMulL rfl (by omega) (by omega)
                    have a_416 : ((10 * (I_397 o 44)) + (5 + (I0 (o + 28) ((I0 o 44) : Int32).toNatClampNeg))).toInt = (10 * (I_397 o 44)).toInt + (5 + (I0 (o + 28) ((I0 o 44) : Int32).toNatClampNeg)).toInt := tAdd (by omega) (by omega)
                    refine ⟨tIn (by omega) (by omega), fun I_417 e_418 => ?_⟩
                    have hR_419 : RI R I_417 := hR_399.up ra 26 (by decide) (Or.inl rfl) e_418 (show (-1 : Int) ≤ (I_336 o 45).toInt by omega) (show (I_336 o 45).toInt ≤ (700 : Int) by omega)
                    have hf_420 : Fm (fun c => c = o ∨ (o + 26 ≤ c ∧ c < o + 34)) I0 I_417 := hf_402.set (by first | rfl | omega | (dsimp only; omega)) e_418
                    have t_421 : (I_417 o 3).toInt = (I_397 o 3).toInt := by rw [← e_418, q_u_ne (by omega)]
                    have t_422 : (I_417 o 4).toInt = (I_397 o 4).toInt := by rw [← e_418, q_u_ne (by omega)]
                    have t_423 : (I_417 o 6).toInt = (I_397 o 6).toInt := by rw [← e_418, q_u_ne (by omega)]
                    have t_424 : (I_417 o 7).toInt = (I_397 o 7).toInt := by rw [← e_418, q_u_ne (by omega)]
                    have t_425 : (I_417 o 8).toInt = (I_397 o 8).toInt := by rw [← e_418, q_u_ne (by omega)]
                    have t_426 : (I_417 o 9).toInt = (I_397 o 9).toInt := by rw [← e_418, q_u_ne (by omega)]
                    have t_427 : (I_417 o 44).toInt = (I_397 o 44).toInt := by rw [← e_418, q_u_ne (by omega)]
                    have t_428 : (I_417 o 45).toInt = (I_397 o 45).toInt := by rw [← e_418, q_u_ne (by omega)]
                    have t_429 : (I_417 o 47).toInt = (I_397 o 47).toInt := by rw [← e_418, q_u_ne (by omega)]
                    have t_430 : (I_417 o 48).toInt = (I_397 o 48).toInt := by rw [← e_418, q_u_ne (by omega)]
                    have k_432 : MPo I_417 o := u_395.fr (by rw [← e_418, q_u_ne (by omega)]) (by rw [← e_418, q_u_ne (by omega)])
                    have k_433 : MTk I_417 o := u_396.fr (by rw [← e_418, q_u_ne (by omega)]) (by rw [← e_418, q_u_ne (by omega)]) (by rw [← e_418, q_u_ne (by omega)])
                    have w_434 : I_417 (o + 28) = I0 (o + 28) := by rw [← e_418, q_u_ne (by omega)]; exact w_413
                    have k_435 : MTd I_417 o := by exact MTd.p26 k_412 e_418 (by omega)
                    have g_436 : (0 : Int) ≤ (I_417 o 44).toInt ∧ (I_417 o 44).toInt ≤ 4 := hR_419.at0 ra 44 (by decide)
                    have a_437 : (10 * (I_417 o 44)).toInt = 10 * (I_417 o 44).toInt := tMulL rfl (by omega) (by omega)
                    have a_438 : ((10 * (I_417 o 44)) + (5 + (I0 (o + 28) ((I0 o 44) : Int32).toNatClampNeg))).toInt = (10 * (I_417 o 44)).toInt + (5 + (I0 (o + 28) ((I0 o 44) : Int32).toNatClampNeg)).toInt := tAdd (by omega) (by omega)
                    have g_439 : (0 : Int) ≤ (I_417 o 45).toInt ∧ (I_417 o 45).toInt ≤ 700 := hR_419.at0 ra 45 (by decide)
                    refine ⟨tIn (by omega) (by omega), fun I_440 e_441 => ?_⟩
                    have hR_442 : RI R I_440 := hR_419.up ra 27 (by decide) (Or.inl rfl) e_441 (show (0 : Int) ≤ (I_417 o 45).toInt by omega) (show (I_417 o 45).toInt ≤ (700 : Int) by omega)
                    have hf_443 : Fm (fun c => c = o ∨ (o + 26 ≤ c ∧ c < o + 34)) I0 I_440 := hf_420.set (by first | rfl | omega | (dsimp only; omega)) e_441
                    have t_444 : (I_440 o 3).toInt = (I_417 o 3).toInt := by rw [← e_441, q_u_ne (by omega)]
                    have t_445 : (I_440 o 4).toInt = (I_417 o 4).toInt := by rw [← e_441, q_u_ne (by omega)]
                    have t_446 : (I_440 o 6).toInt = (I_417 o 6).toInt := by rw [← e_441, q_u_ne (by omega)]
                    have t_447 : (I_440 o 7).toInt = (I_417 o 7).toInt := by rw [← e_441, q_u_ne (by omega)]
                    have t_448 : (I_440 o 8).toInt = (I_417 o 8).toInt := by rw [← e_441, q_u_ne (by omega)]
                    have t_449 : (I_440 o 9).toInt = (I_417 o 9).toInt := by rw [← e_441, q_u_ne (by omega)]
                    have t_450 : (I_440 o 44).toInt = (I_417 o 44).toInt := by rw [← e_441, q_u_ne (by omega)]
                    have t_451 : (I_440 o 45).toInt = (I_417 o 45).toInt := by rw [← e_441, q_u_ne (by omega)]
                    have t_452 : (I_440 o 47).toInt = (I_417 o 47).toInt := by rw [← e_441, q_u_ne (by omega)]
                    have t_453 : (I_440 o 48).toInt = (I_417 o 48).toInt := by rw [← e_441, q_u_ne (by omega)]
                    have k_454 : MPo I_440 o := k_432.fr (by rw [← e_441, q_u_ne (by omega)]) (by rw [← e_441, q_u_ne (by omega)])
                    have k_455 : MTk I_440 o := k_433.fr (by rw [← e_441, q_u_ne (by omega)]) (by rw [← e_441, q_u_ne (by omega)]) (by rw [← e_441, q_u_ne (by omega)])
                    have w_457 : I_440 (o + 28) = I0 (o + 28) := by rw [← e_441, q_u_ne (by omega)]; exact w_434
                    have k_458 : MTd I_440 o := by exact MTd.p27 k_435 e_441 (by omega)
                    have k_459 : ReG I_440 o := by intro h; exact ReS.put (u_361 (by omega)) (by omega) hm26 hm27 hm30 hm3 hm44 hm45 (by omega) (by omega) e_418 e_441 (by omega) (by omega)
                    refine ⟨fun c_460 => ?_, fun c_460 => ?_⟩
                    · have d_461 := iLt c_460
                      exfalso; omega
                    · have d_462 := iNlt c_460
                      have g_463 : (0 : Int) ≤ (I_440 o 44).toInt ∧ (I_440 o 44).toInt ≤ 4 := hR_442.at0 ra 44 (by decide)
                      have rk : (I_440 (o + 28) (I_440 o 44 : Int32).toNatClampNeg).toInt = (I0 (o + 28) (I0 o 44 : Int32).toNatClampNeg).toInt := by rw [w_457, hZ I_440 44 rfl hR_442]
                      refine ⟨tIn (by omega) (by omega), ?_⟩
                      have g_464 : (0 : Int) ≤ (I_440 (o + 28) ((I_440 o 44) : Int32).toNatClampNeg).toInt ∧ (I_440 (o + 28) ((I_440 o 44) : Int32).toNatClampNeg).toInt ≤ 5 := hR_442.at ra 28 _ (by decide)
                      have l_465 : (1 : Int32).toInt = 1 := rfl
                      have a_466 : ((I_440 (o + 28) ((I_440 o 44) : Int32).toNatClampNeg) + 1).toInt = (I_440 (o + 28) ((I_440 o 44) : Int32).toNatClampNeg).toInt + (1 : Int32).toInt := tAdd (by omega) (by omega)
                      refine ⟨tIn (by omega) (by omega), fun I_467 e_468 => ?_⟩
                      have hR_469 : RI R I_467 := hR_442.up ra 28 (by decide) (Or.inl rfl) e_468 (show (0 : Int) ≤ ((I_440 (o + 28) ((I_440 o 44) : Int32).toNatClampNeg) + 1).toInt by omega) (show ((I_440 (o + 28) ((I_440 o 44) : Int32).toNatClampNeg) + 1).toInt ≤ (5 : Int) by omega)
                      have hf_470 : Fm (fun c => c = o ∨ (o + 26 ≤ c ∧ c < o + 34)) I0 I_467 := hf_443.set (by first | rfl | omega | (dsimp only; omega)) e_468
                      have t_471 : (I_467 o 3).toInt = (I_440 o 3).toInt := by rw [← e_468, q_u_ne (by omega)]
                      have t_472 : (I_467 o 4).toInt = (I_440 o 4).toInt := by rw [← e_468, q_u_ne (by omega)]
                      have t_473 : (I_467 o 6).toInt = (I_440 o 6).toInt := by rw [← e_468, q_u_ne (by omega)]
                      have t_474 : (I_467 o 7).toInt = (I_440 o 7).toInt := by rw [← e_468, q_u_ne (by omega)]
                      have t_475 : (I_467 o 8).toInt = (I_440 o 8).toInt := by rw [← e_468, q_u_ne (by omega)]
                      have t_476 : (I_467 o 9).toInt = (I_440 o 9).toInt := by rw [← e_468, q_u_ne (by omega)]
                      have t_477 : (I_467 o 44).toInt = (I_440 o 44).toInt := by rw [← e_468, q_u_ne (by omega)]
                      have t_478 : (I_467 o 45).toInt = (I_440 o 45).toInt := by rw [← e_468, q_u_ne (by omega)]
                      have t_479 : (I_467 o 47).toInt = (I_440 o 47).toInt := by rw [← e_468, q_u_ne (by omega)]
                      have t_480 : (I_467 o 48).toInt = (I_440 o 48).toInt := by rw [← e_468, q_u_ne (by omega)]
                      have k_481 : MPo I_467 o := k_454.fr (by rw [← e_468, q_u_ne (by omega)]) (by rw [← e_468, q_u_ne (by omega)])
                      have k_482 : MTk I_467 o := k_455.fr (by rw [← e_468, q_u_ne (by omega)]) (by rw [← e_468, q_u_ne (by omega)]) (by rw [← e_468, q_u_ne (by omega)])
                      have k_483 : MTd I_467 o := k_458.fr (by rw [← e_468]; exact q_u_ne (by omega)) (by rw [← e_468]; exact q_u_ne (by omega)) (by rw [← e_468]; exact q_u_ne (by omega))
                      have k_484 : ReG I_467 o := k_459.fr (by rw [← e_468]; exact q_u_ne (by omega)) (by rw [← e_468]; exact q_u_ne (by omega)) (by rw [← e_468]; exact q_u_ne (by omega)) (by rw [← e_468, q_u_ne (by omega)]) (by rw [← e_468, q_u_ne (by omega)]) (by rw [← e_468, q_u_ne (by omega)]) (by rw [← e_468, q_u_ne (by omega)]) (by rw [← e_468, q_u_ne (by omega)])
                      unfold fModel_readReform_228
                      have g_485 : (0 : Int) ≤ (I_467 o 44).toInt ∧ (I_467 o 44).toInt ≤ 4 := hR_469.at0 ra 44 (by decide)
                      refine ⟨tIn (by omega) (by omega), ?_⟩
                      refine ⟨tIn (by omega) (by omega), fun I_486 e_487 => ?_⟩
                      have hR_488 : RI R I_486 := hR_469.up ra 29 (by decide) (Or.inl rfl) e_487 (i_lo _) (i_hi _)
                      have hf_489 : Fm (fun c => c = o ∨ (o + 26 ≤ c ∧ c < o + 34)) I0 I_486 := hf_470.set (by first | rfl | omega | (dsimp only; omega)) e_487
                      have t_490 : (I_486 o 3).toInt = (I_467 o 3).toInt := by rw [← e_487, q_u_ne (by omega)]
                      have t_491 : (I_486 o 4).toInt = (I_467 o 4).toInt := by rw [← e_487, q_u_ne (by omega)]
                      have t_492 : (I_486 o 6).toInt = (I_467 o 6).toInt := by rw [← e_487, q_u_ne (by omega)]
                      have t_493 : (I_486 o 7).toInt = (I_467 o 7).toInt := by rw [← e_487, q_u_ne (by omega)]
                      have t_494 : (I_486 o 8).toInt = (I_467 o 8).toInt := by rw [← e_487, q_u_ne (by omega)]
                      have t_495 : (I_486 o 9).toInt = (I_467 o 9).toInt := by rw [← e_487, q_u_ne (by omega)]
                      have t_496 : (I_486 o 44).toInt = (I_467 o 44).toInt := by rw [← e_487, q_u_ne (by omega)]
                      have t_497 : (I_486 o 45).toInt = (I_467 o 45).toInt := by rw [← e_487, q_u_ne (by omega)]
                      have t_498 : (I_486 o 47).toInt = (I_467 o 47).toInt := by rw [← e_487, q_u_ne (by omega)]
                      have t_499 : (I_486 o 48).toInt = (I_467 o 48).toInt := by rw [← e_487, q_u_ne (by omega)]
                      have k_500 : MPo I_486 o := k_481.fr (by rw [← e_487, q_u_ne (by omega)]) (by rw [← e_487, q_u_ne (by omega)])
                      have k_501 : MTk I_486 o := k_482.fr (by rw [← e_487, q_u_ne (by omega)]) (by rw [← e_487, q_u_ne (by omega)]) (by rw [← e_487, q_u_ne (by omega)])
                      have k_502 : MTd I_486 o := k_483.fr (by rw [← e_487]; exact q_u_ne (by omega)) (by rw [← e_487]; exact q_u_ne (by omega)) (by rw [← e_487]; exact q_u_ne (by omega))
                      have k_503 : ReG I_486 o := k_484.fr (by rw [← e_487]; exact q_u_ne (by omega)) (by rw [← e_487]; exact q_u_ne (by omega)) (by rw [← e_487]; exact q_u_ne (by omega)) (by rw [← e_487, q_u_ne (by omega)]) (by rw [← e_487, q_u_ne (by omega)]) (by rw [← e_487, q_u_ne (by omega)]) (by rw [← e_487, q_u_ne (by omega)]) (by rw [← e_487, q_u_ne (by omega)])
                      exact (hp _ _ hR_488 hf_489 (by first | omega | (intro h; omega) | exact Or.inl rfl | exact Or.inr rfl) (by first | omega | (intro h; omega) | exact Or.inl rfl | exact Or.inr rfl) (by first | omega | (intro h; omega) | exact Or.inl rfl | exact Or.inr rfl) (by first | omega | (intro h; omega) | exact Or.inl rfl | exact Or.inr rfl) (by first | omega | (intro h; omega) | exact Or.inl rfl | exact Or.inr rfl) k_502 k_500 k_501 k_503)
                  · have d_504 := iEq c_306
                    have i_505 := u_304 (by omega)
                    exact (hp _ _ hR_282 hf_285 (by first | omega | (intro h; omega) | exact Or.inl rfl | exact Or.inr rfl) (by first | omega | (intro h; omega) | exact Or.inl rfl | exact Or.inr rfl) (by first | omega | (intro h; omega) | exact Or.inl rfl | exact Or.inr rfl) (by first | omega | (intro h; omega) | exact Or.inl rfl | exact Or.inr rfl) (by first | omega | (intro h; omega) | exact Or.inl rfl | exact Or.inr rfl) k_297 k_298 k_299 (fun h => absurd h (by omega)))
                · have d_506 := iNe c_275
                  have g_507 : (0 : Int) ≤ (I0 o 44).toInt ∧ (I0 o 44).toInt ≤ 4 := hR.at0 ra 44 (by decide)
                  have a_508 : (10 * (I0 o 44)).toInt = 10 * (I0 o 44).toInt := tMulL rfl (by omega) (by omega)
                  refine ⟨fun c_509 => ?_, fun c_509 => ?_⟩
                  · have d_510 := iLt c_509
                    exfalso; omega
                  · have d_511 := iNlt c_509
                    refine ⟨fun c_512 => ?_, fun c_512 => ?_⟩
                    · have d_513 := iLt c_512
                      unfold fModel_readReform_132
                      have a_514 : ((10 * (I0 o 44)) + (5 + (I0 (o + 28) ((I0 o 44) : Int32).toNatClampNeg))).toInt = (10 * (I0 o 44)).toInt + (5 + (I0 (o + 28) ((I0 o 44) : Int32).toNatClampNeg)).toInt := tAdd (by omega) (by omega)
                      refine ⟨tIn (by omega) (by omega), ?_⟩
                      have g_515 : (-1 : Int) ≤ (I0 (o + 26) (((10 * (I0 o 44)) + (5 + (I0 (o + 28) ((I0 o 44) : Int32).toNatClampNeg))) : Int32).toNatClampNeg).toInt ∧ (I0 (o + 26) (((10 * (I0 o 44)) + (5 + (I0 (o + 28) ((I0 o 44) : Int32).toNatClampNeg))) : Int32).toNatClampNeg).toInt ≤ 700 := hR.at ra 26 _ (by decide)
                      refine ⟨fun c_516 => ?_, fun c_516 => ?_⟩
                      · have d_517 := iLt c_516
                        refine y_Model_isGood hok hw ra hR (fun r_518 u_519 u_520 u_521 => ⟨r_518, I0, L0, rfl, rfl, ?_⟩)
                        have b_522 : 0 ≤ r_518.toInt ∧ r_518.toInt ≤ 1 := u_519.rg
                        refine ⟨fun c_523 => ?_, fun c_523 => ?_⟩
                        · have d_524 := iNe c_523
                          have i_525 := u_520 (by omega)
                          have tk := hq6.1
                          refine y_Model_next hok hw ra hz16 hz17 hz18 hz19 (by first | omega | (intro h; omega) | exact Or.inl rfl | exact Or.inr rfl) hR (fun I_535 L_536 hR_537 fr_538 kp_539 u_527 u_528 u_529 u_530 u_531 u_532 u_533 u_534 => ⟨I_535, L_536, rfl, rfl, ?_⟩)
                          have hf_540 : Fm (fun c => c = o ∨ (o + 26 ≤ c ∧ c < o + 34)) I0 I_535 := hf.call fr_538 (fun c hc => by first | exact hc | (dsimp only at hc ⊢; omega) | omega)
                          have t_541 : (I_535 o 3).toInt = (I0 o 3).toInt := by rw [kp_539 3 rfl]
                          have t_542 : (I_535 o 4).toInt = (I0 o 4).toInt := by rw [kp_539 4 rfl]
                          have g_543 : (0 : Int) ≤ (I_535 o 6).toInt ∧ (I_535 o 6).toInt ≤ 1600 := hR_537.at0 ra 6 (by decide)
                          have g_544 : (0 : Int) ≤ (I_535 o 7).toInt ∧ (I_535 o 7).toInt ≤ 1601 := hR_537.at0 ra 7 (by decide)
                          have g_545 : (0 : Int) ≤ (I_535 o 8).toInt ∧ (I_535 o 8).toInt ≤ 6 := hR_537.at0 ra 8 (by decide)
                          have t_546 : (I_535 o 44).toInt = (I0 o 44).toInt := by rw [kp_539 44 rfl]
                          have t_547 : (I_535 o 45).toInt = (I0 o 45).toInt := by rw [kp_539 45 rfl]
                          have t_548 : (I_535 o 47).toInt = (I0 o 47).toInt := by rw [kp_539 47 rfl]
                          have t_549 : (I_535 o 48).toInt = (I0 o 48).toInt := by rw [kp_539 48 rfl]
                          have k_550 : MTd I_535 o := hq4.fr (fr_538 _ (by first | omega | (dsimp only; omega))) (fr_538 _ (by first | omega | (dsimp only; omega))) (fr_538 _ (by first | omega | (dsimp only; omega)))
                          have w_551 : I_535 (o + 28) = I0 (o + 28) := (fr_538 (o + 28) (by first | omega | (dsimp only; omega)))
                          have ms := u_530 (by omega)
                          have k_552 : ReS I_535 o := by exact ReS.at hq3 (fr_538 _ (by first | omega | (dsimp only; omega))) (fr_538 _ (by first | omega | (dsimp only; omega))) (fr_538 _ (by first | omega | (dsimp only; omega))) (kp_539 3 rfl) (by omega) (by omega) (kp_539 44 rfl) (kp_539 45 rfl)
                          refine fun I_553 e_554 => ?_
                          have hR_555 : RI R I_553 := hR_537.up0 (k := 49) ra (by decide) (Or.inr hz59) e_554 (i_lo _) (i_hi _)
                          have hf_556 : Fm (fun c => c = o ∨ (o + 26 ≤ c ∧ c < o + 34)) I0 I_553 := hf_540.set (by first | rfl | omega | (dsimp only; omega)) e_554
                          have t_557 : (I_553 o 3).toInt = (I_535 o 3).toInt := by rw [← e_554, q_u_k (by decide)]
                          have t_558 : (I_553 o 4).toInt = (I_535 o 4).toInt := by rw [← e_554, q_u_k (by decide)]
                          have t_559 : (I_553 o 6).toInt = (I_535 o 6).toInt := by rw [← e_554, q_u_k (by decide)]
                          have t_560 : (I_553 o 7).toInt = (I_535 o 7).toInt := by rw [← e_554, q_u_k (by decide)]
                          have t_561 : (I_553 o 8).toInt = (I_535 o 8).toInt := by rw [← e_554, q_u_k (by decide)]
                          have t_562 : (I_553 o 9).toInt = (I_535 o 9).toInt := by rw [← e_554, q_u_k (by decide)]
                          have t_563 : (I_553 o 44).toInt = (I_535 o 44).toInt := by rw [← e_554, q_u_k (by decide)]
                          have t_564 : (I_553 o 45).toInt = (I_535 o 45).toInt := by rw [← e_554, q_u_k (by decide)]
                          have t_565 : (I_553 o 47).toInt = (I_535 o 47).toInt := by rw [← e_554, q_u_k (by decide)]
                          have t_566 : (I_553 o 48).toInt = (I_535 o 48).toInt := by rw [← e_554, q_u_k (by decide)]
                          have k_567 : MTd I_553 o := k_550.fr (by rw [← e_554]; exact q_u_ne (by omega)) (by rw [← e_554]; exact q_u_ne (by omega)) (by rw [← e_554]; exact q_u_ne (by omega))
                          have k_568 : MPo I_553 o := u_533.fr (by rw [← e_554, q_u_k (by decide)]) (by rw [← e_554, q_u_k (by decide)])
                          have k_569 : MTk I_553 o := u_534.fr (by rw [← e_554, q_u_k (by decide)]) (by rw [← e_554, q_u_k (by decide)]) (by rw [← e_554, q_u_k (by decide)])
                          have k_570 : ReS I_553 o := k_552.fr (by rw [← e_554]; exact q_u_ne (by omega)) (by rw [← e_554]; exact q_u_ne (by omega)) (by rw [← e_554]; exact q_u_ne (by omega)) (by rw [← e_554, q_u_k (by decide)]) (by rw [← e_554, q_u_k (by decide)]) (by rw [← e_554, q_u_k (by decide)]) (by rw [← e_554, q_u_k (by decide)])
                          have w_571 : I_553 (o + 28) = I0 (o + 28) := by rw [← e_554, q_u_ne (by omega)]; exact w_551
                          have g_572 : (0 : Int) ≤ (I_553 o 45).toInt ∧ (I_553 o 45).toInt ≤ 700 := hR_555.at0 ra 45 (by decide)
                          refine y_Model_e hok hw ra hz14 hz15 hz16 hz17 hz18 hz19 hz55 hz56 hz57 hz58 (by first | omega | (intro h; omega) | exact Or.inl rfl | exact Or.inr rfl) (by first | omega | (intro h; omega) | exact Or.inl rfl | exact Or.inr rfl) k_570 k_567 k_568 k_569 hR_555 (fun I_582 L_583 hR_584 fr_585 kp_586 u_574 u_575 u_576 u_577 u_578 u_579 u_580 u_581 => ⟨I_582, L_583, rfl, rfl, ?_⟩)
                          have hf_587 : Fm (fun c => c = o ∨ (o + 26 ≤ c ∧ c < o + 34)) I0 I_582 := hf_556.call fr_585 (fun c hc => by first | exact hc | (dsimp only at hc ⊢; omega) | omega)
                          have t_588 : (I_582 o 3).toInt = (I_553 o 3).toInt := by rw [kp_586 3 rfl]
                          have g_589 : (0 : Int) ≤ (I_582 o 4).toInt ∧ (I_582 o 4).toInt ≤ 5 := hR_584.at0 ra 4 (by decide)
                          have g_590 : (0 : Int) ≤ (I_582 o 6).toInt ∧ (I_582 o 6).toInt ≤ 1600 := hR_584.at0 ra 6 (by decide)
                          have g_591 : (0 : Int) ≤ (I_582 o 7).toInt ∧ (I_582 o 7).toInt ≤ 1601 := hR_584.at0 ra 7 (by decide)
                          have g_592 : (0 : Int) ≤ (I_582 o 8).toInt ∧ (I_582 o 8).toInt ≤ 6 := hR_584.at0 ra 8 (by decide)
                          have t_593 : (I_582 o 44).toInt = (I_553 o 44).toInt := by rw [kp_586 44 rfl]
                          have g_594 : (0 : Int) ≤ (I_582 o 45).toInt ∧ (I_582 o 45).toInt ≤ 700 := hR_584.at0 ra 45 (by decide)
                          have g_595 : (0 : Int) ≤ (I_582 o 47).toInt ∧ (I_582 o 47).toInt ≤ 7 := hR_584.at0 ra 47 (by decide)
                          have g_596 : (0 : Int) ≤ (I_582 o 48).toInt ∧ (I_582 o 48).toInt ≤ 80 := hR_584.at0 ra 48 (by decide)
                          have w_597 : I_582 (o + 28) = I0 (o + 28) := (fr_585 (o + 28) (by first | omega | (dsimp only; omega))).trans w_571
                          have l_598 : (59 : Int32).toInt = 59 := rfl
                          refine y_Model_is hok hw ra hR_584 (fun r_599 u_600 u_601 u_602 => ⟨r_599, I_582, L_583, rfl, rfl, ?_⟩)
                          have b_603 : 0 ≤ r_599.toInt ∧ r_599.toInt ≤ 1 := u_600.rg
                          refine y_Model_must hok hw ra hz14 hz15 hz16 hz17 hz18 hz19 (by first | omega | (intro h; omega) | exact Or.inl rfl | exact Or.inr rfl) u_580 u_581 hR_584 (fun I_614 L_615 hR_616 fr_617 kp_618 u_605 u_606 u_607 u_608 u_609 u_610 u_611 u_612 u_613 => ⟨I_614, L_615, rfl, rfl, ?_⟩)
                          have hf_619 : Fm (fun c => c = o ∨ (o + 26 ≤ c ∧ c < o + 34)) I0 I_614 := hf_587.call fr_617 (fun c hc => by first | exact hc | (dsimp only at hc ⊢; omega) | omega)
                          have t_620 : (I_614 o 3).toInt = (I_582 o 3).toInt := by rw [kp_618 3 rfl]
                          have g_621 : (0 : Int) ≤ (I_614 o 4).toInt ∧ (I_614 o 4).toInt ≤ 5 := hR_616.at0 ra 4 (by decide)
                          have g_622 : (0 : Int) ≤ (I_614 o 6).toInt ∧ (I_614 o 6).toInt ≤ 1600 := hR_616.at0 ra 6 (by decide)
                          have g_623 : (0 : Int) ≤ (I_614 o 7).toInt ∧ (I_614 o 7).toInt ≤ 1601 := hR_616.at0 ra 7 (by decide)
                          have g_624 : (0 : Int) ≤ (I_614 o 8).toInt ∧ (I_614 o 8).toInt ≤ 6 := hR_616.at0 ra 8 (by decide)
                          have t_625 : (I_614 o 44).toInt = (I_582 o 44).toInt := by rw [kp_618 44 rfl]
                          have t_626 : (I_614 o 45).toInt = (I_582 o 45).toInt := by rw [kp_618 45 rfl]
                          have t_627 : (I_614 o 47).toInt = (I_582 o 47).toInt := by rw [kp_618 47 rfl]
                          have t_628 : (I_614 o 48).toInt = (I_582 o 48).toInt := by rw [kp_618 48 rfl]
                          have k_629 : MTd I_614 o := u_579.fr (fr_617 _ (by first | omega | (dsimp only; omega))) (fr_617 _ (by first | omega | (dsimp only; omega))) (fr_617 _ (by first | omega | (dsimp only; omega)))
                          have w_630 : I_614 (o + 28) = I0 (o + 28) := (fr_617 (o + 28) (by first | omega | (dsimp only; omega))).trans w_597
                          have hm26 := fr_617 (o + 26) (by first | omega | (dsimp only; omega))
                          have hm27 := fr_617 (o + 27) (by first | omega | (dsimp only; omega))
                          have hm30 := fr_617 (o + 30) (by first | omega | (dsimp only; omega))
                          have hm3 := kp_618 3 rfl
                          have hm44 := kp_618 44 rfl
                          have hm45 := kp_618 45 rfl
                          have tk2 := u_613.1
                          have g_631 : (0 : Int) ≤ (I_614 o 44).toInt ∧ (I_614 o 44).toInt ≤ 4 := hR_616.at0 ra 44 (by decide)
                          have a_632 : (10 * (I_614 o 44)).toInt = 10 * (I_614 o 44).toInt := tMulL rfl (by omega) (by omega)
                          have a_633 : ((10 * (I_614 o 44)) + (5 + (I0 (o + 28) ((I0 o 44) : Int32).toNatClampNeg))).toInt = (10 * (I_614 o 44)).toInt + (5 + (I0 (o + 28) ((I0 o 44) : Int32).toNatClampNeg)).toInt := tAdd (by omega) (by omega)
                          refine ⟨tIn (by omega) (by omega), fun I_634 e_635 => ?_⟩
                          have hR_636 : RI R I_634 := hR_616.up ra 26 (by decide) (Or.inl rfl) e_635 (show (-1 : Int) ≤ (I_553 o 45).toInt by omega) (show (I_553 o 45).toInt ≤ (700 : Int) by omega)
                          have hf_637 : Fm (fun c => c = o ∨ (o + 26 ≤ c ∧ c < o + 34)) I0 I_634 := hf_619.set (by first | rfl | omega | (dsimp only; omega)) e_635
                          have t_638 : (I_634 o 3).toInt = (I_614 o 3).toInt := by rw [← e_635, q_u_ne (by omega)]
                          have t_639 : (I_634 o 4).toInt = (I_614 o 4).toInt := by rw [← e_635, q_u_ne (by omega)]
                          have t_640 : (I_634 o 6).toInt = (I_614 o 6).toInt := by rw [← e_635, q_u_ne (by omega)]
                          have t_641 : (I_634 o 7).toInt = (I_614 o 7).toInt := by rw [← e_635, q_u_ne (by omega)]
                          have t_642 : (I_634 o 8).toInt = (I_614 o 8).toInt := by rw [← e_635, q_u_ne (by omega)]
                          have t_643 : (I_634 o 9).toInt = (I_614 o 9).toInt := by rw [← e_635, q_u_ne (by omega)]
                          have t_644 : (I_634 o 44).toInt = (I_614 o 44).toInt := by rw [← e_635, q_u_ne (by omega)]
                          have t_645 : (I_634 o 45).toInt = (I_614 o 45).toInt := by rw [← e_635, q_u_ne (by omega)]
                          have t_646 : (I_634 o 47).toInt = (I_614 o 47).toInt := by rw [← e_635, q_u_ne (by omega)]
                          have t_647 : (I_634 o 48).toInt = (I_614 o 48).toInt := by rw [← e_635, q_u_ne (by omega)]
                          have k_649 : MPo I_634 o := u_612.fr (by rw [← e_635, q_u_ne (by omega)]) (by rw [← e_635, q_u_ne (by omega)])
                          have k_650 : MTk I_634 o := u_613.fr (by rw [← e_635, q_u_ne (by omega)]) (by rw [← e_635, q_u_ne (by omega)]) (by rw [← e_635, q_u_ne (by omega)])
                          have w_651 : I_634 (o + 28) = I0 (o + 28) := by rw [← e_635, q_u_ne (by omega)]; exact w_630
                          have k_652 : MTd I_634 o := by exact MTd.p26 k_629 e_635 (by omega)
                          have g_653 : (0 : Int) ≤ (I_634 o 44).toInt ∧ (I_634 o 44).toInt ≤ 4 := hR_636.at0 ra 44 (by decide)
                          have a_654 : (10 * (I_634 o 44)).toInt = 10 * (I_634 o 44).toInt := tMulL rfl (by omega) (by omega)
                          have a_655 : ((10 * (I_634 o 44)) + (5 + (I0 (o + 28) ((I0 o 44) : Int32).toNatClampNeg))).toInt = (10 * (I_634 o 44)).toInt + (5 + (I0 (o + 28) ((I0 o 44) : Int32).toNatClampNeg)).toInt := tAdd (by omega) (by omega)
                          have g_656 : (0 : Int) ≤ (I_634 o 45).toInt ∧ (I_634 o 45).toInt ≤ 700 := hR_636.at0 ra 45 (by decide)
                          refine ⟨tIn (by omega) (by omega), fun I_657 e_658 => ?_⟩
                          have hR_659 : RI R I_657 := hR_636.up ra 27 (by decide) (Or.inl rfl) e_658 (show (0 : Int) ≤ (I_634 o 45).toInt by omega) (show (I_634 o 45).toInt ≤ (700 : Int) by omega)
                          have hf_660 : Fm (fun c => c = o ∨ (o + 26 ≤ c ∧ c < o + 34)) I0 I_657 := hf_637.set (by first | rfl | omega | (dsimp only; omega)) e_658
                          have t_661 : (I_657 o 3).toInt = (I_634 o 3).toInt := by rw [← e_658, q_u_ne (by omega)]
                          have t_662 : (I_657 o 4).toInt = (I_634 o 4).toInt := by rw [← e_658, q_u_ne (by omega)]
                          have t_663 : (I_657 o 6).toInt = (I_634 o 6).toInt := by rw [← e_658, q_u_ne (by omega)]
                          have t_664 : (I_657 o 7).toInt = (I_634 o 7).toInt := by rw [← e_658, q_u_ne (by omega)]
                          have t_665 : (I_657 o 8).toInt = (I_634 o 8).toInt := by rw [← e_658, q_u_ne (by omega)]
                          have t_666 : (I_657 o 9).toInt = (I_634 o 9).toInt := by rw [← e_658, q_u_ne (by omega)]
                          have t_667 : (I_657 o 44).toInt = (I_634 o 44).toInt := by rw [← e_658, q_u_ne (by omega)]
                          have t_668 : (I_657 o 45).toInt = (I_634 o 45).toInt := by rw [← e_658, q_u_ne (by omega)]
                          have t_669 : (I_657 o 47).toInt = (I_634 o 47).toInt := by rw [← e_658, q_u_ne (by omega)]
                          have t_670 : (I_657 o 48).toInt = (I_634 o 48).toInt := by rw [← e_658, q_u_ne (by omega)]
                          have k_671 : MPo I_657 o := k_649.fr (by rw [← e_658, q_u_ne (by omega)]) (by rw [← e_658, q_u_ne (by omega)])
                          have k_672 : MTk I_657 o := k_650.fr (by rw [← e_658, q_u_ne (by omega)]) (by rw [← e_658, q_u_ne (by omega)]) (by rw [← e_658, q_u_ne (by omega)])
                          have w_674 : I_657 (o + 28) = I0 (o + 28) := by rw [← e_658, q_u_ne (by omega)]; exact w_651
                          have k_675 : MTd I_657 o := by exact MTd.p27 k_652 e_658 (by omega)
                          have k_676 : ReG I_657 o := by intro h; exact ReS.put (u_578 (by omega)) (by omega) hm26 hm27 hm30 hm3 hm44 hm45 (by omega) (by omega) e_635 e_658 (by omega) (by omega)
                          refine ⟨fun c_677 => ?_, fun c_677 => ?_⟩
                          · have d_678 := iLt c_677
                            exfalso; omega
                          · have d_679 := iNlt c_677
                            have g_680 : (0 : Int) ≤ (I_657 o 44).toInt ∧ (I_657 o 44).toInt ≤ 4 := hR_659.at0 ra 44 (by decide)
                            have rk : (I_657 (o + 28) (I_657 o 44 : Int32).toNatClampNeg).toInt = (I0 (o + 28) (I0 o 44 : Int32).toNatClampNeg).toInt := by rw [w_674, hZ I_657 44 rfl hR_659]
                            refine ⟨tIn (by omega) (by omega), ?_⟩
                            have g_681 : (0 : Int) ≤ (I_657 (o + 28) ((I_657 o 44) : Int32).toNatClampNeg).toInt ∧ (I_657 (o + 28) ((I_657 o 44) : Int32).toNatClampNeg).toInt ≤ 5 := hR_659.at ra 28 _ (by decide)
                            have l_682 : (1 : Int32).toInt = 1 := rfl
                            have a_683 : ((I_657 (o + 28) ((I_657 o 44) : Int32).toNatClampNeg) + 1).toInt = (I_657 (o + 28) ((I_657 o 44) : Int32).toNatClampNeg).toInt + (1 : Int32).toInt := tAdd (by omega) (by omega)
                            refine ⟨tIn (by omega) (by omega), fun I_684 e_685 => ?_⟩
                            have hR_686 : RI R I_684 := hR_659.up ra 28 (by decide) (Or.inl rfl) e_685 (show (0 : Int) ≤ ((I_657 (o + 28) ((I_657 o 44) : Int32).toNatClampNeg) + 1).toInt by omega) (show ((I_657 (o + 28) ((I_657 o 44) : Int32).toNatClampNeg) + 1).toInt ≤ (5 : Int) by omega)
                            have hf_687 : Fm (fun c => c = o ∨ (o + 26 ≤ c ∧ c < o + 34)) I0 I_684 := hf_660.set (by first | rfl | omega | (dsimp only; omega)) e_685
                            have t_688 : (I_684 o 3).toInt = (I_657 o 3).toInt := by rw [← e_685, q_u_ne (by omega)]
                            have t_689 : (I_684 o 4).toInt = (I_657 o 4).toInt := by rw [← e_685, q_u_ne (by omega)]
                            have t_690 : (I_684 o 6).toInt = (I_657 o 6).toInt := by rw [← e_685, q_u_ne (by omega)]
                            have t_691 : (I_684 o 7).toInt = (I_657 o 7).toInt := by rw [← e_685, q_u_ne (by omega)]
                            have t_692 : (I_684 o 8).toInt = (I_657 o 8).toInt := by rw [← e_685, q_u_ne (by omega)]
                            have t_693 : (I_684 o 9).toInt = (I_657 o 9).toInt := by rw [← e_685, q_u_ne (by omega)]
                            have t_694 : (I_684 o 44).toInt = (I_657 o 44).toInt := by rw [← e_685, q_u_ne (by omega)]
                            have t_695 : (I_684 o 45).toInt = (I_657 o 45).toInt := by rw [← e_685, q_u_ne (by omega)]
                            have t_696 : (I_684 o 47).toInt = (I_657 o 47).toInt := by rw [← e_685, q_u_ne (by omega)]
                            have t_697 : (I_684 o 48).toInt = (I_657 o 48).toInt := by rw [← e_685, q_u_ne (by omega)]
                            have k_698 : MPo I_684 o := k_671.fr (by rw [← e_685, q_u_ne (by omega)]) (by rw [← e_685, q_u_ne (by omega)])
                            have k_699 : MTk I_684 o := k_672.fr (by rw [← e_685, q_u_ne (by omega)]) (by rw [← e_685, q_u_ne (by omega)]) (by rw [← e_685, q_u_ne (by omega)])
                            have k_700 : MTd I_684 o := k_675.fr (by rw [← e_685]; exact q_u_ne (by omega)) (by rw [← e_685]; exact q_u_ne (by omega)) (by rw [← e_685]; exact q_u_ne (by omega))
                            have k_701 : ReG I_684 o := k_676.fr (by rw [← e_685]; exact q_u_ne (by omega)) (by rw [← e_685]; exact q_u_ne (by omega)) (by rw [← e_685]; exact q_u_ne (by omega)) (by rw [← e_685, q_u_ne (by omega)]) (by rw [← e_685, q_u_ne (by omega)]) (by rw [← e_685, q_u_ne (by omega)]) (by rw [← e_685, q_u_ne (by omega)]) (by rw [← e_685, q_u_ne (by omega)])
                            unfold fModel_readReform_228
                            have g_702 : (0 : Int) ≤ (I_684 o 44).toInt ∧ (I_684 o 44).toInt ≤ 4 := hR_686.at0 ra 44 (by decide)
                            refine ⟨tIn (by omega) (by omega), ?_⟩
                            refine ⟨tIn (by omega) (by omega), fun I_703 e_704 => ?_⟩
                            have hR_705 : RI R I_703 := hR_686.up ra 29 (by decide) (Or.inl rfl) e_704 (i_lo _) (i_hi _)
                            have hf_706 : Fm (fun c => c = o ∨ (o + 26 ≤ c ∧ c < o + 34)) I0 I_703 := hf_687.set (by first | rfl | omega | (dsimp only; omega)) e_704
                            have t_707 : (I_703 o 3).toInt = (I_684 o 3).toInt := by rw [← e_704, q_u_ne (by omega)]
                            have t_708 : (I_703 o 4).toInt = (I_684 o 4).toInt := by rw [← e_704, q_u_ne (by omega)]
                            have t_709 : (I_703 o 6).toInt = (I_684 o 6).toInt := by rw [← e_704, q_u_ne (by omega)]
                            have t_710 : (I_703 o 7).toInt = (I_684 o 7).toInt := by rw [← e_704, q_u_ne (by omega)]
                            have t_711 : (I_703 o 8).toInt = (I_684 o 8).toInt := by rw [← e_704, q_u_ne (by omega)]
                            have t_712 : (I_703 o 9).toInt = (I_684 o 9).toInt := by rw [← e_704, q_u_ne (by omega)]
                            have t_713 : (I_703 o 44).toInt = (I_684 o 44).toInt := by rw [← e_704, q_u_ne (by omega)]
                            have t_714 : (I_703 o 45).toInt = (I_684 o 45).toInt := by rw [← e_704, q_u_ne (by omega)]
                            have t_715 : (I_703 o 47).toInt = (I_684 o 47).toInt := by rw [← e_704, q_u_ne (by omega)]
                            have t_716 : (I_703 o 48).toInt = (I_684 o 48).toInt := by rw [← e_704, q_u_ne (by omega)]
                            have k_717 : MPo I_703 o := k_698.fr (by rw [← e_704, q_u_ne (by omega)]) (by rw [← e_704, q_u_ne (by omega)])
                            have k_718 : MTk I_703 o := k_699.fr (by rw [← e_704, q_u_ne (by omega)]) (by rw [← e_704, q_u_ne (by omega)]) (by rw [← e_704, q_u_ne (by omega)])
                            have k_719 : MTd I_703 o := k_700.fr (by rw [← e_704]; exact q_u_ne (by omega)) (by rw [← e_704]; exact q_u_ne (by omega)) (by rw [← e_704]; exact q_u_ne (by omega))
                            have k_720 : ReG I_703 o := k_701.fr (by rw [← e_704]; exact q_u_ne (by omega)) (by rw [← e_704]; exact q_u_ne (by omega)) (by rw [← e_704]; exact q_u_ne (by omega)) (by rw [← e_704, q_u_ne (by omega)]) (by rw [← e_704, q_u_ne (by omega)]) (by rw [← e_704, q_u_ne (by omega)]) (by rw [← e_704, q_u_ne (by omega)]) (by rw [← e_704, q_u_ne (by omega)])
                            exact (hp _ _ hR_705 hf_706 (by first | omega | (intro h; omega) | exact Or.inl rfl | exact Or.inr rfl) (by first | omega | (intro h; omega) | exact Or.inl rfl | exact Or.inr rfl) (by first | omega | (intro h; omega) | exact Or.inl rfl | exact Or.inr rfl) (by first | omega | (intro h; omega) | exact Or.inl rfl | exact Or.inr rfl) (by first | omega | (intro h; omega) | exact Or.inl rfl | exact Or.inr rfl) k_719 k_717 k_718 k_720)
                        · have d_721 := iEq c_523
                          have i_722 := u_521 (by omega)
                          exact (hp _ _ hR hf (by first | omega | (intro h; omega) | exact Or.inl rfl | exact Or.inr rfl) (by first | omega | (intro h; omega) | exact Or.inl rfl | exact Or.inr rfl) (by first | omega | (intro h; omega) | exact Or.inl rfl | exact Or.inr rfl) (by first | omega | (intro h; omega) | exact Or.inl rfl | exact Or.inr rfl) (by first | omega | (intro h; omega) | exact Or.inl rfl | exact Or.inr rfl) hq4 hq5 hq6 (fun h => absurd h (by omega)))
                      · have d_723 := iNlt c_516
                        refine y_Model_wrong hok hw ra hz14 hz15 hR (fun I_727 L_728 hR_729 fr_730 kp_731 u_725 u_726 => ⟨I_727, L_728, rfl, rfl, ?_⟩)
                        have hf_732 : Fm (fun c => c = o ∨ (o + 26 ≤ c ∧ c < o + 34)) I0 I_727 := hf.call fr_730 (fun c hc => by first | exact hc | (dsimp only at hc ⊢; omega) | omega)
                        have t_733 : (I_727 o 3).toInt = (I0 o 3).toInt := by rw [kp_731 3 rfl]
                        have g_734 : (0 : Int) ≤ (I_727 o 4).toInt ∧ (I_727 o 4).toInt ≤ 5 := hR_729.at0 ra 4 (by decide)
                        have t_735 : (I_727 o 6).toInt = (I0 o 6).toInt := by rw [kp_731 6 rfl]
                        have t_736 : (I_727 o 7).toInt = (I0 o 7).toInt := by rw [kp_731 7 rfl]
                        have t_737 : (I_727 o 8).toInt = (I0 o 8).toInt := by rw [kp_731 8 rfl]
                        have t_738 : (I_727 o 9).toInt = (I0 o 9).toInt := by rw [kp_731 9 rfl]
                        have t_739 : (I_727 o 44).toInt = (I0 o 44).toInt := by rw [kp_731 44 rfl]
                        have t_740 : (I_727 o 45).toInt = (I0 o 45).toInt := by rw [kp_731 45 rfl]
                        have t_741 : (I_727 o 47).toInt = (I0 o 47).toInt := by rw [kp_731 47 rfl]
                        have t_742 : (I_727 o 48).toInt = (I0 o 48).toInt := by rw [kp_731 48 rfl]
                        have k_743 : ReS I_727 o := hq3.fr (fr_730 _ (by first | omega | (dsimp only; omega))) (fr_730 _ (by first | omega | (dsimp only; omega))) (fr_730 _ (by first | omega | (dsimp only; omega))) (kp_731 3 rfl) (kp_731 6 rfl) (kp_731 44 rfl) (kp_731 45 rfl)
                        have k_744 : MTd I_727 o := hq4.fr (fr_730 _ (by first | omega | (dsimp only; omega))) (fr_730 _ (by first | omega | (dsimp only; omega))) (fr_730 _ (by first | omega | (dsimp only; omega)))
                        have k_745 : MPo I_727 o := hq5.fr (kp_731 8 rfl) (kp_731 9 rfl)
                        have k_746 : MTk I_727 o := hq6.fr (kp_731 6 rfl) (kp_731 7 rfl) (kp_731 8 rfl)
                        have w_747 : I_727 (o + 28) = I0 (o + 28) := (fr_730 (o + 28) (by first | omega | (dsimp only; omega)))
                        refine y_Model_isGood hok hw ra hR_729 (fun r_748 u_749 u_750 u_751 => ⟨r_748, I_727, L_728, rfl, rfl, ?_⟩)
                        have b_752 : 0 ≤ r_748.toInt ∧ r_748.toInt ≤ 1 := u_749.rg
                        refine ⟨fun c_753 => ?_, fun c_753 => ?_⟩
                        · have d_754 := iNe c_753
                          have i_755 := u_750 (by omega)
                          have tk := k_746.1
                          refine y_Model_next hok hw ra hz16 hz17 hz18 hz19 (by first | omega | (intro h; omega) | exact Or.inl rfl | exact Or.inr rfl) hR_729 (fun I_765 L_766 hR_767 fr_768 kp_769 u_757 u_758 u_759 u_760 u_761 u_762 u_763 u_764 => ⟨I_765, L_766, rfl, rfl, ?_⟩)
                          have hf_770 : Fm (fun c => c = o ∨ (o + 26 ≤ c ∧ c < o + 34)) I0 I_765 := hf_732.call fr_768 (fun c hc => by first | exact hc | (dsimp only at hc ⊢; omega) | omega)
                          have t_771 : (I_765 o 3).toInt = (I_727 o 3).toInt := by rw [kp_769 3 rfl]
                          have t_772 : (I_765 o 4).toInt = (I_727 o 4).toInt := by rw [kp_769 4 rfl]
                          have g_773 : (0 : Int) ≤ (I_765 o 6).toInt ∧ (I_765 o 6).toInt ≤ 1600 := hR_767.at0 ra 6 (by decide)
                          have g_774 : (0 : Int) ≤ (I_765 o 7).toInt ∧ (I_765 o 7).toInt ≤ 1601 := hR_767.at0 ra 7 (by decide)
                          have g_775 : (0 : Int) ≤ (I_765 o 8).toInt ∧ (I_765 o 8).toInt ≤ 6 := hR_767.at0 ra 8 (by decide)
                          have t_776 : (I_765 o 44).toInt = (I_727 o 44).toInt := by rw [kp_769 44 rfl]
                          have t_777 : (I_765 o 45).toInt = (I_727 o 45).toInt := by rw [kp_769 45 rfl]
                          have t_778 : (I_765 o 47).toInt = (I_727 o 47).toInt := by rw [kp_769 47 rfl]
                          have t_779 : (I_765 o 48).toInt = (I_727 o 48).toInt := by rw [kp_769 48 rfl]
                          have k_780 : MTd I_765 o := k_744.fr (fr_768 _ (by first | omega | (dsimp only; omega))) (fr_768 _ (by first | omega | (dsimp only; omega))) (fr_768 _ (by first | omega | (dsimp only; omega)))
                          have w_781 : I_765 (o + 28) = I0 (o + 28) := (fr_768 (o + 28) (by first | omega | (dsimp only; omega))).trans w_747
                          have ms := u_760 (by omega)
                          have k_782 : ReS I_765 o := by exact ReS.at k_743 (fr_768 _ (by first | omega | (dsimp only; omega))) (fr_768 _ (by first | omega | (dsimp only; omega))) (fr_768 _ (by first | omega | (dsimp only; omega))) (kp_769 3 rfl) (by omega) (by omega) (kp_769 44 rfl) (kp_769 45 rfl)
                          refine fun I_783 e_784 => ?_
                          have hR_785 : RI R I_783 := hR_767.up0 (k := 49) ra (by decide) (Or.inr hz59) e_784 (i_lo _) (i_hi _)
                          have hf_786 : Fm (fun c => c = o ∨ (o + 26 ≤ c ∧ c < o + 34)) I0 I_783 := hf_770.set (by first | rfl | omega | (dsimp only; omega)) e_784
                          have t_787 : (I_783 o 3).toInt = (I_765 o 3).toInt := by rw [← e_784, q_u_k (by decide)]
                          have t_788 : (I_783 o 4).toInt = (I_765 o 4).toInt := by rw [← e_784, q_u_k (by decide)]
                          have t_789 : (I_783 o 6).toInt = (I_765 o 6).toInt := by rw [← e_784, q_u_k (by decide)]
                          have t_790 : (I_783 o 7).toInt = (I_765 o 7).toInt := by rw [← e_784, q_u_k (by decide)]
                          have t_791 : (I_783 o 8).toInt = (I_765 o 8).toInt := by rw [← e_784, q_u_k (by decide)]
                          have t_792 : (I_783 o 9).toInt = (I_765 o 9).toInt := by rw [← e_784, q_u_k (by decide)]
                          have t_793 : (I_783 o 44).toInt = (I_765 o 44).toInt := by rw [← e_784, q_u_k (by decide)]
                          have t_794 : (I_783 o 45).toInt = (I_765 o 45).toInt := by rw [← e_784, q_u_k (by decide)]
                          have t_795 : (I_783 o 47).toInt = (I_765 o 47).toInt := by rw [← e_784, q_u_k (by decide)]
                          have t_796 : (I_783 o 48).toInt = (I_765 o 48).toInt := by rw [← e_784, q_u_k (by decide)]
                          have k_797 : MTd I_783 o := k_780.fr (by rw [← e_784]; exact q_u_ne (by omega)) (by rw [← e_784]; exact q_u_ne (by omega)) (by rw [← e_784]; exact q_u_ne (by omega))
                          have k_798 : MPo I_783 o := u_763.fr (by rw [← e_784, q_u_k (by decide)]) (by rw [← e_784, q_u_k (by decide)])
                          have k_799 : MTk I_783 o := u_764.fr (by rw [← e_784, q_u_k (by decide)]) (by rw [← e_784, q_u_k (by decide)]) (by rw [← e_784, q_u_k (by decide)])
                          have k_800 : ReS I_783 o := k_782.fr (by rw [← e_784]; exact q_u_ne (by omega)) (by rw [← e_784]; exact q_u_ne (by omega)) (by rw [← e_784]; exact q_u_ne (by omega)) (by rw [← e_784, q_u_k (by decide)]) (by rw [← e_784, q_u_k (by decide)]) (by rw [← e_784, q_u_k (by decide)]) (by rw [← e_784, q_u_k (by decide)])
                          have w_801 : I_783 (o + 28) = I0 (o + 28) := by rw [← e_784, q_u_ne (by omega)]; exact w_781
                          have g_802 : (0 : Int) ≤ (I_783 o 45).toInt ∧ (I_783 o 45).toInt ≤ 700 := hR_785.at0 ra 45 (by decide)
                          refine y_Model_e hok hw ra hz14 hz15 hz16 hz17 hz18 hz19 hz55 hz56 hz57 hz58 (by first | omega | (intro h; omega) | exact Or.inl rfl | exact Or.inr rfl) (by first | omega | (intro h; omega) | exact Or.inl rfl | exact Or.inr rfl) k_800 k_797 k_798 k_799 hR_785 (fun I_812 L_813 hR_814 fr_815 kp_816 u_804 u_805 u_806 u_807 u_808 u_809 u_810 u_811 => ⟨I_812, L_813, rfl, rfl, ?_⟩)
                          have hf_817 : Fm (fun c => c = o ∨ (o + 26 ≤ c ∧ c < o + 34)) I0 I_812 := hf_786.call fr_815 (fun c hc => by first | exact hc | (dsimp only at hc ⊢; omega) | omega)
                          have t_818 : (I_812 o 3).toInt = (I_783 o 3).toInt := by rw [kp_816 3 rfl]
                          have g_819 : (0 : Int) ≤ (I_812 o 4).toInt ∧ (I_812 o 4).toInt ≤ 5 := hR_814.at0 ra 4 (by decide)
                          have g_820 : (0 : Int) ≤ (I_812 o 6).toInt ∧ (I_812 o 6).toInt ≤ 1600 := hR_814.at0 ra 6 (by decide)
                          have g_821 : (0 : Int) ≤ (I_812 o 7).toInt ∧ (I_812 o 7).toInt ≤ 1601 := hR_814.at0 ra 7 (by decide)
                          have g_822 : (0 : Int) ≤ (I_812 o 8).toInt ∧ (I_812 o 8).toInt ≤ 6 := hR_814.at0 ra 8 (by decide)
                          have t_823 : (I_812 o 44).toInt = (I_783 o 44).toInt := by rw [kp_816 44 rfl]
                          have g_824 : (0 : Int) ≤ (I_812 o 45).toInt ∧ (I_812 o 45).toInt ≤ 700 := hR_814.at0 ra 45 (by decide)
                          have g_825 : (0 : Int) ≤ (I_812 o 47).toInt ∧ (I_812 o 47).toInt ≤ 7 := hR_814.at0 ra 47 (by decide)
                          have g_826 : (0 : Int) ≤ (I_812 o 48).toInt ∧ (I_812 o 48).toInt ≤ 80 := hR_814.at0 ra 48 (by decide)
                          have w_827 : I_812 (o + 28) = I0 (o + 28) := (fr_815 (o + 28) (by first | omega | (dsimp only; omega))).trans w_801
                          have l_828 : (59 : Int32).toInt = 59 := rfl
                          refine y_Model_is hok hw ra hR_814 (fun r_829 u_830 u_831 u_832 => ⟨r_829, I_812, L_813, rfl, rfl, ?_⟩)
                          have b_833 : 0 ≤ r_829.toInt ∧ r_829.toInt ≤ 1 := u_830.rg
                          refine y_Model_must hok hw ra hz14 hz15 hz16 hz17 hz18 hz19 (by first | omega | (intro h; omega) | exact Or.inl rfl | exact Or.inr rfl) u_810 u_811 hR_814 (fun I_844 L_845 hR_846 fr_847 kp_848 u_835 u_836 u_837 u_838 u_839 u_840 u_841 u_842 u_843 => ⟨I_844, L_845, rfl, rfl, ?_⟩)
                          have hf_849 : Fm (fun c => c = o ∨ (o + 26 ≤ c ∧ c < o + 34)) I0 I_844 := hf_817.call fr_847 (fun c hc => by first | exact hc | (dsimp only at hc ⊢; omega) | omega)
                          have t_850 : (I_844 o 3).toInt = (I_812 o 3).toInt := by rw [kp_848 3 rfl]
                          have g_851 : (0 : Int) ≤ (I_844 o 4).toInt ∧ (I_844 o 4).toInt ≤ 5 := hR_846.at0 ra 4 (by decide)
                          have g_852 : (0 : Int) ≤ (I_844 o 6).toInt ∧ (I_844 o 6).toInt ≤ 1600 := hR_846.at0 ra 6 (by decide)
                          have g_853 : (0 : Int) ≤ (I_844 o 7).toInt ∧ (I_844 o 7).toInt ≤ 1601 := hR_846.at0 ra 7 (by decide)
                          have g_854 : (0 : Int) ≤ (I_844 o 8).toInt ∧ (I_844 o 8).toInt ≤ 6 := hR_846.at0 ra 8 (by decide)
                          have t_855 : (I_844 o 44).toInt = (I_812 o 44).toInt := by rw [kp_848 44 rfl]
                          have t_856 : (I_844 o 45).toInt = (I_812 o 45).toInt := by rw [kp_848 45 rfl]
                          have t_857 : (I_844 o 47).toInt = (I_812 o 47).toInt := by rw [kp_848 47 rfl]
                          have t_858 : (I_844 o 48).toInt = (I_812 o 48).toInt := by rw [kp_848 48 rfl]
                          have k_859 : MTd I_844 o := u_809.fr (fr_847 _ (by first | omega | (dsimp only; omega))) (fr_847 _ (by first | omega | (dsimp only; omega))) (fr_847 _ (by first | omega | (dsimp only; omega)))
                          have w_860 : I_844 (o + 28) = I0 (o + 28) := (fr_847 (o + 28) (by first | omega | (dsimp only; omega))).trans w_827
                          have hm26 := fr_847 (o + 26) (by first | omega | (dsimp only; omega))
                          have hm27 := fr_847 (o + 27) (by first | omega | (dsimp only; omega))
                          have hm30 := fr_847 (o + 30) (by first | omega | (dsimp only; omega))
                          have hm3 := kp_848 3 rfl
                          have hm44 := kp_848 44 rfl
                          have hm45 := kp_848 45 rfl
                          have tk2 := u_843.1
                          have g_861 : (0 : Int) ≤ (I_844 o 44).toInt ∧ (I_844 o 44).toInt ≤ 4 := hR_846.at0 ra 44 (by decide)
                          have a_862 : (10 * (I_844 o 44)).toInt = 10 * (I_844 o 44).toInt := tMulL rfl (by omega) (by omega)
                          have a_863 : ((10 * (I_844 o 44)) + (5 + (I0 (o + 28) ((I0 o 44) : Int32).toNatClampNeg))).toInt = (10 * (I_844 o 44)).toInt + (5 + (I0 (o + 28) ((I0 o 44) : Int32).toNatClampNeg)).toInt := tAdd (by omega) (by omega)
                          refine ⟨tIn (by omega) (by omega), fun I_864 e_865 => ?_⟩
                          have hR_866 : RI R I_864 := hR_846.up ra 26 (by decide) (Or.inl rfl) e_865 (show (-1 : Int) ≤ (I_783 o 45).toInt by omega) (show (I_783 o 45).toInt ≤ (700 : Int) by omega)
                          have hf_867 : Fm (fun c => c = o ∨ (o + 26 ≤ c ∧ c < o + 34)) I0 I_864 := hf_849.set (by first | rfl | omega | (dsimp only; omega)) e_865
                          have t_868 : (I_864 o 3).toInt = (I_844 o 3).toInt := by rw [← e_865, q_u_ne (by omega)]
                          have t_869 : (I_864 o 4).toInt = (I_844 o 4).toInt := by rw [← e_865, q_u_ne (by omega)]
                          have t_870 : (I_864 o 6).toInt = (I_844 o 6).toInt := by rw [← e_865, q_u_ne (by omega)]
                          have t_871 : (I_864 o 7).toInt = (I_844 o 7).toInt := by rw [← e_865, q_u_ne (by omega)]
                          have t_872 : (I_864 o 8).toInt = (I_844 o 8).toInt := by rw [← e_865, q_u_ne (by omega)]
                          have t_873 : (I_864 o 9).toInt = (I_844 o 9).toInt := by rw [← e_865, q_u_ne (by omega)]
                          have t_874 : (I_864 o 44).toInt = (I_844 o 44).toInt := by rw [← e_865, q_u_ne (by omega)]
                          have t_875 : (I_864 o 45).toInt = (I_844 o 45).toInt := by rw [← e_865, q_u_ne (by omega)]
                          have t_876 : (I_864 o 47).toInt = (I_844 o 47).toInt := by rw [← e_865, q_u_ne (by omega)]
                          have t_877 : (I_864 o 48).toInt = (I_844 o 48).toInt := by rw [← e_865, q_u_ne (by omega)]
                          have k_879 : MPo I_864 o := u_842.fr (by rw [← e_865, q_u_ne (by omega)]) (by rw [← e_865, q_u_ne (by omega)])
                          have k_880 : MTk I_864 o := u_843.fr (by rw [← e_865, q_u_ne (by omega)]) (by rw [← e_865, q_u_ne (by omega)]) (by rw [← e_865, q_u_ne (by omega)])
                          have w_881 : I_864 (o + 28) = I0 (o + 28) := by rw [← e_865, q_u_ne (by omega)]; exact w_860
                          have k_882 : MTd I_864 o := by exact MTd.p26 k_859 e_865 (by omega)
                          have g_883 : (0 : Int) ≤ (I_864 o 44).toInt ∧ (I_864 o 44).toInt ≤ 4 := hR_866.at0 ra 44 (by decide)
                          have a_884 : (10 * (I_864 o 44)).toInt = 10 * (I_864 o 44).toInt := tMulL rfl (by omega) (by omega)
                          have a_885 : ((10 * (I_864 o 44)) + (5 + (I0 (o + 28) ((I0 o 44) : Int32).toNatClampNeg))).toInt = (10 * (I_864 o 44)).toInt + (5 + (I0 (o + 28) ((I0 o 44) : Int32).toNatClampNeg)).toInt := tAdd (by omega) (by omega)
                          have g_886 : (0 : Int) ≤ (I_864 o 45).toInt ∧ (I_864 o 45).toInt ≤ 700 := hR_866.at0 ra 45 (by decide)
                          refine ⟨tIn (by omega) (by omega), fun I_887 e_888 => ?_⟩
                          have hR_889 : RI R I_887 := hR_866.up ra 27 (by decide) (Or.inl rfl) e_888 (show (0 : Int) ≤ (I_864 o 45).toInt by omega) (show (I_864 o 45).toInt ≤ (700 : Int) by omega)
                          have hf_890 : Fm (fun c => c = o ∨ (o + 26 ≤ c ∧ c < o + 34)) I0 I_887 := hf_867.set (by first | rfl | omega | (dsimp only; omega)) e_888
                          have t_891 : (I_887 o 3).toInt = (I_864 o 3).toInt := by rw [← e_888, q_u_ne (by omega)]
                          have t_892 : (I_887 o 4).toInt = (I_864 o 4).toInt := by rw [← e_888, q_u_ne (by omega)]
                          have t_893 : (I_887 o 6).toInt = (I_864 o 6).toInt := by rw [← e_888, q_u_ne (by omega)]
                          have t_894 : (I_887 o 7).toInt = (I_864 o 7).toInt := by rw [← e_888, q_u_ne (by omega)]
                          have t_895 : (I_887 o 8).toInt = (I_864 o 8).toInt := by rw [← e_888, q_u_ne (by omega)]
                          have t_896 : (I_887 o 9).toInt = (I_864 o 9).toInt := by rw [← e_888, q_u_ne (by omega)]
                          have t_897 : (I_887 o 44).toInt = (I_864 o 44).toInt := by rw [← e_888, q_u_ne (by omega)]
                          have t_898 : (I_887 o 45).toInt = (I_864 o 45).toInt := by rw [← e_888, q_u_ne (by omega)]
                          have t_899 : (I_887 o 47).toInt = (I_864 o 47).toInt := by rw [← e_888, q_u_ne (by omega)]
                          have t_900 : (I_887 o 48).toInt = (I_864 o 48).toInt := by rw [← e_888, q_u_ne (by omega)]
                          have k_901 : MPo I_887 o := k_879.fr (by rw [← e_888, q_u_ne (by omega)]) (by rw [← e_888, q_u_ne (by omega)])
                          have k_902 : MTk I_887 o := k_880.fr (by rw [← e_888, q_u_ne (by omega)]) (by rw [← e_888, q_u_ne (by omega)]) (by rw [← e_888, q_u_ne (by omega)])
                          have w_904 : I_887 (o + 28) = I0 (o + 28) := by rw [← e_888, q_u_ne (by omega)]; exact w_881
                          have k_905 : MTd I_887 o := by exact MTd.p27 k_882 e_888 (by omega)
                          have k_906 : ReG I_887 o := by intro h; exact ReS.put (u_808 (by omega)) (by omega) hm26 hm27 hm30 hm3 hm44 hm45 (by omega) (by omega) e_865 e_888 (by omega) (by omega)
                          refine ⟨fun c_907 => ?_, fun c_907 => ?_⟩
                          · have d_908 := iLt c_907
                            exfalso; omega
                          · have d_909 := iNlt c_907
                            have g_910 : (0 : Int) ≤ (I_887 o 44).toInt ∧ (I_887 o 44).toInt ≤ 4 := hR_889.at0 ra 44 (by decide)
                            have rk : (I_887 (o + 28) (I_887 o 44 : Int32).toNatClampNeg).toInt = (I0 (o + 28) (I0 o 44 : Int32).toNatClampNeg).toInt := by rw [w_904, hZ I_887 44 rfl hR_889]
                            refine ⟨tIn (by omega) (by omega), ?_⟩
                            have g_911 : (0 : Int) ≤ (I_887 (o + 28) ((I_887 o 44) : Int32).toNatClampNeg).toInt ∧ (I_887 (o + 28) ((I_887 o 44) : Int32).toNatClampNeg).toInt ≤ 5 := hR_889.at ra 28 _ (by decide)
                            have l_912 : (1 : Int32).toInt = 1 := rfl
                            have a_913 : ((I_887 (o + 28) ((I_887 o 44) : Int32).toNatClampNeg) + 1).toInt = (I_887 (o + 28) ((I_887 o 44) : Int32).toNatClampNeg).toInt + (1 : Int32).toInt := tAdd (by omega) (by omega)
                            refine ⟨tIn (by omega) (by omega), fun I_914 e_915 => ?_⟩
                            have hR_916 : RI R I_914 := hR_889.up ra 28 (by decide) (Or.inl rfl) e_915 (show (0 : Int) ≤ ((I_887 (o + 28) ((I_887 o 44) : Int32).toNatClampNeg) + 1).toInt by omega) (show ((I_887 (o + 28) ((I_887 o 44) : Int32).toNatClampNeg) + 1).toInt ≤ (5 : Int) by omega)
                            have hf_917 : Fm (fun c => c = o ∨ (o + 26 ≤ c ∧ c < o + 34)) I0 I_914 := hf_890.set (by first | rfl | omega | (dsimp only; omega)) e_915
                            have t_918 : (I_914 o 3).toInt = (I_887 o 3).toInt := by rw [← e_915, q_u_ne (by omega)]
                            have t_919 : (I_914 o 4).toInt = (I_887 o 4).toInt := by rw [← e_915, q_u_ne (by omega)]
                            have t_920 : (I_914 o 6).toInt = (I_887 o 6).toInt := by rw [← e_915, q_u_ne (by omega)]
                            have t_921 : (I_914 o 7).toInt = (I_887 o 7).toInt := by rw [← e_915, q_u_ne (by omega)]
                            have t_922 : (I_914 o 8).toInt = (I_887 o 8).toInt := by rw [← e_915, q_u_ne (by omega)]
                            have t_923 : (I_914 o 9).toInt = (I_887 o 9).toInt := by rw [← e_915, q_u_ne (by omega)]
                            have t_924 : (I_914 o 44).toInt = (I_887 o 44).toInt := by rw [← e_915, q_u_ne (by omega)]
                            have t_925 : (I_914 o 45).toInt = (I_887 o 45).toInt := by rw [← e_915, q_u_ne (by omega)]
                            have t_926 : (I_914 o 47).toInt = (I_887 o 47).toInt := by rw [← e_915, q_u_ne (by omega)]
                            have t_927 : (I_914 o 48).toInt = (I_887 o 48).toInt := by rw [← e_915, q_u_ne (by omega)]
                            have k_928 : MPo I_914 o := k_901.fr (by rw [← e_915, q_u_ne (by omega)]) (by rw [← e_915, q_u_ne (by omega)])
                            have k_929 : MTk I_914 o := k_902.fr (by rw [← e_915, q_u_ne (by omega)]) (by rw [← e_915, q_u_ne (by omega)]) (by rw [← e_915, q_u_ne (by omega)])
                            have k_930 : MTd I_914 o := k_905.fr (by rw [← e_915]; exact q_u_ne (by omega)) (by rw [← e_915]; exact q_u_ne (by omega)) (by rw [← e_915]; exact q_u_ne (by omega))
                            have k_931 : ReG I_914 o := k_906.fr (by rw [← e_915]; exact q_u_ne (by omega)) (by rw [← e_915]; exact q_u_ne (by omega)) (by rw [← e_915]; exact q_u_ne (by omega)) (by rw [← e_915, q_u_ne (by omega)]) (by rw [← e_915, q_u_ne (by omega)]) (by rw [← e_915, q_u_ne (by omega)]) (by rw [← e_915, q_u_ne (by omega)]) (by rw [← e_915, q_u_ne (by omega)])
                            unfold fModel_readReform_228
                            have g_932 : (0 : Int) ≤ (I_914 o 44).toInt ∧ (I_914 o 44).toInt ≤ 4 := hR_916.at0 ra 44 (by decide)
                            refine ⟨tIn (by omega) (by omega), ?_⟩
                            refine ⟨tIn (by omega) (by omega), fun I_933 e_934 => ?_⟩
                            have hR_935 : RI R I_933 := hR_916.up ra 29 (by decide) (Or.inl rfl) e_934 (i_lo _) (i_hi _)
                            have hf_936 : Fm (fun c => c = o ∨ (o + 26 ≤ c ∧ c < o + 34)) I0 I_933 := hf_917.set (by first | rfl | omega | (dsimp only; omega)) e_934
                            have t_937 : (I_933 o 3).toInt = (I_914 o 3).toInt := by rw [← e_934, q_u_ne (by omega)]
                            have t_938 : (I_933 o 4).toInt = (I_914 o 4).toInt := by rw [← e_934, q_u_ne (by omega)]
                            have t_939 : (I_933 o 6).toInt = (I_914 o 6).toInt := by rw [← e_934, q_u_ne (by omega)]
                            have t_940 : (I_933 o 7).toInt = (I_914 o 7).toInt := by rw [← e_934, q_u_ne (by omega)]
                            have t_941 : (I_933 o 8).toInt = (I_914 o 8).toInt := by rw [← e_934, q_u_ne (by omega)]
                            have t_942 : (I_933 o 9).toInt = (I_914 o 9).toInt := by rw [← e_934, q_u_ne (by omega)]
                            have t_943 : (I_933 o 44).toInt = (I_914 o 44).toInt := by rw [← e_934, q_u_ne (by omega)]
                            have t_944 : (I_933 o 45).toInt = (I_914 o 45).toInt := by rw [← e_934, q_u_ne (by omega)]
                            have t_945 : (I_933 o 47).toInt = (I_914 o 47).toInt := by rw [← e_934, q_u_ne (by omega)]
                            have t_946 : (I_933 o 48).toInt = (I_914 o 48).toInt := by rw [← e_934, q_u_ne (by omega)]
                            have k_947 : MPo I_933 o := k_928.fr (by rw [← e_934, q_u_ne (by omega)]) (by rw [← e_934, q_u_ne (by omega)])
                            have k_948 : MTk I_933 o := k_929.fr (by rw [← e_934, q_u_ne (by omega)]) (by rw [← e_934, q_u_ne (by omega)]) (by rw [← e_934, q_u_ne (by omega)])
                            have k_949 : MTd I_933 o := k_930.fr (by rw [← e_934]; exact q_u_ne (by omega)) (by rw [← e_934]; exact q_u_ne (by omega)) (by rw [← e_934]; exact q_u_ne (by omega))
                            have k_950 : ReG I_933 o := k_931.fr (by rw [← e_934]; exact q_u_ne (by omega)) (by rw [← e_934]; exact q_u_ne (by omega)) (by rw [← e_934]; exact q_u_ne (by omega)) (by rw [← e_934, q_u_ne (by omega)]) (by rw [← e_934, q_u_ne (by omega)]) (by rw [← e_934, q_u_ne (by omega)]) (by rw [← e_934, q_u_ne (by omega)]) (by rw [← e_934, q_u_ne (by omega)])
                            exact (hp _ _ hR_935 hf_936 (by first | omega | (intro h; omega) | exact Or.inl rfl | exact Or.inr rfl) (by first | omega | (intro h; omega) | exact Or.inl rfl | exact Or.inr rfl) (by first | omega | (intro h; omega) | exact Or.inl rfl | exact Or.inr rfl) (by first | omega | (intro h; omega) | exact Or.inl rfl | exact Or.inr rfl) (by first | omega | (intro h; omega) | exact Or.inl rfl | exact Or.inr rfl) k_949 k_947 k_948 k_950)
                        · have d_951 := iEq c_753
                          have i_952 := u_751 (by omega)
                          exact (hp _ _ hR_729 hf_732 (by first | omega | (intro h; omega) | exact Or.inl rfl | exact Or.inr rfl) (by first | omega | (intro h; omega) | exact Or.inl rfl | exact Or.inr rfl) (by first | omega | (intro h; omega) | exact Or.inl rfl | exact Or.inr rfl) (by first | omega | (intro h; omega) | exact Or.inl rfl | exact Or.inr rfl) (by first | omega | (intro h; omega) | exact Or.inl rfl | exact Or.inr rfl) k_744 k_745 k_746 (fun h => absurd h (by omega)))
                    · have d_953 := iNlt c_512
                      exfalso; omega
          · have d_954 := iNe c_43
            have i_955 := u_41 (by omega)
            unfold fModel_readReform_95
            have l_956 : (4 : Int32).toInt = 4 := rfl
            refine ⟨fun c_957 => ?_, fun c_957 => ?_⟩
            · have d_958 := iLt c_957
              exfalso; omega
            · have d_959 := iNlt c_957
              have l_960 : (10 : Int32).toInt = 10 := rfl
              refine ⟨fun c_961 => ?_, fun c_961 => ?_⟩
              · have d_962 := iEq c_961
                exfalso; omega
              · have d_963 := iNe c_961
                have g_964 : (0 : Int) ≤ (I0 o 44).toInt ∧ (I0 o 44).toInt ≤ 4 := hR.at0 ra 44 (by decide)
                have a_965 : (10 * (I0 o 44)).toInt = 10 * (I0 o 44).toInt := tMulL rfl (by omega) (by omega)
                refine ⟨fun c_966 => ?_, fun c_966 => ?_⟩
                · have d_967 := iLt c_966
                  exfalso; omega
                · have d_968 := iNlt c_966
                  refine ⟨fun c_969 => ?_, fun c_969 => ?_⟩
                  · have d_970 := iLt c_969
                    unfold fModel_readReform_132
                    have a_971 : ((10 * (I0 o 44)) + (4 : Int32)).toInt = (10 * (I0 o 44)).toInt + (4 : Int32).toInt := tAdd (by omega) (by omega)
                    refine ⟨tIn (by omega) (by omega), ?_⟩
                    have g_972 : (-1 : Int) ≤ (I0 (o + 26) (((10 * (I0 o 44)) + (4 : Int32)) : Int32).toNatClampNeg).toInt ∧ (I0 (o + 26) (((10 * (I0 o 44)) + (4 : Int32)) : Int32).toNatClampNeg).toInt ≤ 700 := hR.at ra 26 _ (by decide)
                    refine ⟨fun c_973 => ?_, fun c_973 => ?_⟩
                    · have d_974 := iLt c_973
                      refine y_Model_isGood hok hw ra hR (fun r_975 u_976 u_977 u_978 => ⟨r_975, I0, L0, rfl, rfl, ?_⟩)
                      have b_979 : 0 ≤ r_975.toInt ∧ r_975.toInt ≤ 1 := u_976.rg
                      refine ⟨fun c_980 => ?_, fun c_980 => ?_⟩
                      · have d_981 := iNe c_980
                        have i_982 := u_977 (by omega)
                        have tk := hq6.1
                        refine y_Model_next hok hw ra hz16 hz17 hz18 hz19 (by first | omega | (intro h; omega) | exact Or.inl rfl | exact Or.inr rfl) hR (fun I_992 L_993 hR_994 fr_995 kp_996 u_984 u_985 u_986 u_987 u_988 u_989 u_990 u_991 => ⟨I_992, L_993, rfl, rfl, ?_⟩)
                        have hf_997 : Fm (fun c => c = o ∨ (o + 26 ≤ c ∧ c < o + 34)) I0 I_992 := hf.call fr_995 (fun c hc => by first | exact hc | (dsimp only at hc ⊢; omega) | omega)
                        have t_998 : (I_992 o 3).toInt = (I0 o 3).toInt := by rw [kp_996 3 rfl]
                        have t_999 : (I_992 o 4).toInt = (I0 o 4).toInt := by rw [kp_996 4 rfl]
                        have g_1000 : (0 : Int) ≤ (I_992 o 6).toInt ∧ (I_992 o 6).toInt ≤ 1600 := hR_994.at0 ra 6 (by decide)
                        have g_1001 : (0 : Int) ≤ (I_992 o 7).toInt ∧ (I_992 o 7).toInt ≤ 1601 := hR_994.at0 ra 7 (by decide)
                        have g_1002 : (0 : Int) ≤ (I_992 o 8).toInt ∧ (I_992 o 8).toInt ≤ 6 := hR_994.at0 ra 8 (by decide)
                        have t_1003 : (I_992 o 44).toInt = (I0 o 44).toInt := by rw [kp_996 44 rfl]
                        have t_1004 : (I_992 o 45).toInt = (I0 o 45).toInt := by rw [kp_996 45 rfl]
                        have t_1005 : (I_992 o 47).toInt = (I0 o 47).toInt := by rw [kp_996 47 rfl]
                        have t_1006 : (I_992 o 48).toInt = (I0 o 48).toInt := by rw [kp_996 48 rfl]
                        have k_1007 : MTd I_992 o := hq4.fr (fr_995 _ (by first | omega | (dsimp only; omega))) (fr_995 _ (by first | omega | (dsimp only; omega))) (fr_995 _ (by first | omega | (dsimp only; omega)))
                        have w_1008 : I_992 (o + 28) = I0 (o + 28) := (fr_995 (o + 28) (by first | omega | (dsimp only; omega)))
                        have ms := u_987 (by omega)
                        have k_1009 : ReS I_992 o := by exact ReS.at hq3 (fr_995 _ (by first | omega | (dsimp only; omega))) (fr_995 _ (by first | omega | (dsimp only; omega))) (fr_995 _ (by first | omega | (dsimp only; omega))) (kp_996 3 rfl) (by omega) (by omega) (kp_996 44 rfl) (kp_996 45 rfl)
                        refine fun I_1010 e_1011 => ?_
                        have hR_1012 : RI R I_1010 := hR_994.up0 (k := 49) ra (by decide) (Or.inr hz59) e_1011 (i_lo _) (i_hi _)
                        have hf_1013 : Fm (fun c => c = o ∨ (o + 26 ≤ c ∧ c < o + 34)) I0 I_1010 := hf_997.set (by first | rfl | omega | (dsimp only; omega)) e_1011
                        have t_1014 : (I_1010 o 3).toInt = (I_992 o 3).toInt := by rw [← e_1011, q_u_k (by decide)]
                        have t_1015 : (I_1010 o 4).toInt = (I_992 o 4).toInt := by rw [← e_1011, q_u_k (by decide)]
                        have t_1016 : (I_1010 o 6).toInt = (I_992 o 6).toInt := by rw [← e_1011, q_u_k (by decide)]
                        have t_1017 : (I_1010 o 7).toInt = (I_992 o 7).toInt := by rw [← e_1011, q_u_k (by decide)]
                        have t_1018 : (I_1010 o 8).toInt = (I_992 o 8).toInt := by rw [← e_1011, q_u_k (by decide)]
                        have t_1019 : (I_1010 o 9).toInt = (I_992 o 9).toInt := by rw [← e_1011, q_u_k (by decide)]
                        have t_1020 : (I_1010 o 44).toInt = (I_992 o 44).toInt := by rw [← e_1011, q_u_k (by decide)]
                        have t_1021 : (I_1010 o 45).toInt = (I_992 o 45).toInt := by rw [← e_1011, q_u_k (by decide)]
                        have t_1022 : (I_1010 o 47).toInt = (I_992 o 47).toInt := by rw [← e_1011, q_u_k (by decide)]
                        have t_1023 : (I_1010 o 48).toInt = (I_992 o 48).toInt := by rw [← e_1011, q_u_k (by decide)]
                        have k_1024 : MTd I_1010 o := k_1007.fr (by rw [← e_1011]; exact q_u_ne (by omega)) (by rw [← e_1011]; exact q_u_ne (by omega)) (by rw [← e_1011]; exact q_u_ne (by omega))
                        have k_1025 : MPo I_1010 o := u_990.fr (by rw [← e_1011, q_u_k (by decide)]) (by rw [← e_1011, q_u_k (by decide)])
                        have k_1026 : MTk I_1010 o := u_991.fr (by rw [← e_1011, q_u_k (by decide)]) (by rw [← e_1011, q_u_k (by decide)]) (by rw [← e_1011, q_u_k (by decide)])
                        have k_1027 : ReS I_1010 o := k_1009.fr (by rw [← e_1011]; exact q_u_ne (by omega)) (by rw [← e_1011]; exact q_u_ne (by omega)) (by rw [← e_1011]; exact q_u_ne (by omega)) (by rw [← e_1011, q_u_k (by decide)]) (by rw [← e_1011, q_u_k (by decide)]) (by rw [← e_1011, q_u_k (by decide)]) (by rw [← e_1011, q_u_k (by decide)])
                        have w_1028 : I_1010 (o + 28) = I0 (o + 28) := by rw [← e_1011, q_u_ne (by omega)]; exact w_1008
                        have g_1029 : (0 : Int) ≤ (I_1010 o 45).toInt ∧ (I_1010 o 45).toInt ≤ 700 := hR_1012.at0 ra 45 (by decide)
                        refine y_Model_e hok hw ra hz14 hz15 hz16 hz17 hz18 hz19 hz55 hz56 hz57 hz58 (by first | omega | (intro h; omega) | exact Or.inl rfl | exact Or.inr rfl) (by first | omega | (intro h; omega) | exact Or.inl rfl | exact Or.inr rfl) k_1027 k_1024 k_1025 k_1026 hR_1012 (fun I_1039 L_1040 hR_1041 fr_1042 kp_1043 u_1031 u_1032 u_1033 u_1034 u_1035 u_1036 u_1037 u_1038 => ⟨I_1039, L_1040, rfl, rfl, ?_⟩)
                        have hf_1044 : Fm (fun c => c = o ∨ (o + 26 ≤ c ∧ c < o + 34)) I0 I_1039 := hf_1013.call fr_1042 (fun c hc => by first | exact hc | (dsimp only at hc ⊢; omega) | omega)
                        have t_1045 : (I_1039 o 3).toInt = (I_1010 o 3).toInt := by rw [kp_1043 3 rfl]
                        have g_1046 : (0 : Int) ≤ (I_1039 o 4).toInt ∧ (I_1039 o 4).toInt ≤ 5 := hR_1041.at0 ra 4 (by decide)
                        have g_1047 : (0 : Int) ≤ (I_1039 o 6).toInt ∧ (I_1039 o 6).toInt ≤ 1600 := hR_1041.at0 ra 6 (by decide)
                        have g_1048 : (0 : Int) ≤ (I_1039 o 7).toInt ∧ (I_1039 o 7).toInt ≤ 1601 := hR_1041.at0 ra 7 (by decide)
                        have g_1049 : (0 : Int) ≤ (I_1039 o 8).toInt ∧ (I_1039 o 8).toInt ≤ 6 := hR_1041.at0 ra 8 (by decide)
                        have t_1050 : (I_1039 o 44).toInt = (I_1010 o 44).toInt := by rw [kp_1043 44 rfl]
                        have g_1051 : (0 : Int) ≤ (I_1039 o 45).toInt ∧ (I_1039 o 45).toInt ≤ 700 := hR_1041.at0 ra 45 (by decide)
                        have g_1052 : (0 : Int) ≤ (I_1039 o 47).toInt ∧ (I_1039 o 47).toInt ≤ 7 := hR_1041.at0 ra 47 (by decide)
                        have g_1053 : (0 : Int) ≤ (I_1039 o 48).toInt ∧ (I_1039 o 48).toInt ≤ 80 := hR_1041.at0 ra 48 (by decide)
                        have w_1054 : I_1039 (o + 28) = I0 (o + 28) := (fr_1042 (o + 28) (by first | omega | (dsimp only; omega))).trans w_1028
                        have l_1055 : (59 : Int32).toInt = 59 := rfl
                        refine y_Model_is hok hw ra hR_1041 (fun r_1056 u_1057 u_1058 u_1059 => ⟨r_1056, I_1039, L_1040, rfl, rfl, ?_⟩)
                        have b_1060 : 0 ≤ r_1056.toInt ∧ r_1056.toInt ≤ 1 := u_1057.rg
                        refine y_Model_must hok hw ra hz14 hz15 hz16 hz17 hz18 hz19 (by first | omega | (intro h; omega) | exact Or.inl rfl | exact Or.inr rfl) u_1037 u_1038 hR_1041 (fun I_1071 L_1072 hR_1073 fr_1074 kp_1075 u_1062 u_1063 u_1064 u_1065 u_1066 u_1067 u_1068 u_1069 u_1070 => ⟨I_1071, L_1072, rfl, rfl, ?_⟩)
                        have hf_1076 : Fm (fun c => c = o ∨ (o + 26 ≤ c ∧ c < o + 34)) I0 I_1071 := hf_1044.call fr_1074 (fun c hc => by first | exact hc | (dsimp only at hc ⊢; omega) | omega)
                        have t_1077 : (I_1071 o 3).toInt = (I_1039 o 3).toInt := by rw [kp_1075 3 rfl]
                        have g_1078 : (0 : Int) ≤ (I_1071 o 4).toInt ∧ (I_1071 o 4).toInt ≤ 5 := hR_1073.at0 ra 4 (by decide)
                        have g_1079 : (0 : Int) ≤ (I_1071 o 6).toInt ∧ (I_1071 o 6).toInt ≤ 1600 := hR_1073.at0 ra 6 (by decide)
                        have g_1080 : (0 : Int) ≤ (I_1071 o 7).toInt ∧ (I_1071 o 7).toInt ≤ 1601 := hR_1073.at0 ra 7 (by decide)
                        have g_1081 : (0 : Int) ≤ (I_1071 o 8).toInt ∧ (I_1071 o 8).toInt ≤ 6 := hR_1073.at0 ra 8 (by decide)
                        have t_1082 : (I_1071 o 44).toInt = (I_1039 o 44).toInt := by rw [kp_1075 44 rfl]
                        have t_1083 : (I_1071 o 45).toInt = (I_1039 o 45).toInt := by rw [kp_1075 45 rfl]
                        have t_1084 : (I_1071 o 47).toInt = (I_1039 o 47).toInt := by rw [kp_1075 47 rfl]
                        have t_1085 : (I_1071 o 48).toInt = (I_1039 o 48).toInt := by rw [kp_1075 48 rfl]
                        have k_1086 : MTd I_1071 o := u_1036.fr (fr_1074 _ (by first | omega | (dsimp only; omega))) (fr_1074 _ (by first | omega | (dsimp only; omega))) (fr_1074 _ (by first | omega | (dsimp only; omega)))
                        have w_1087 : I_1071 (o + 28) = I0 (o + 28) := (fr_1074 (o + 28) (by first | omega | (dsimp only; omega))).trans w_1054
                        have hm26 := fr_1074 (o + 26) (by first | omega | (dsimp only; omega))
                        have hm27 := fr_1074 (o + 27) (by first | omega | (dsimp only; omega))
                        have hm30 := fr_1074 (o + 30) (by first | omega | (dsimp only; omega))
                        have hm3 := kp_1075 3 rfl
                        have hm44 := kp_1075 44 rfl
                        have hm45 := kp_1075 45 rfl
                        have tk2 := u_1070.1
                        have g_1088 : (0 : Int) ≤ (I_1071 o 44).toInt ∧ (I_1071 o 44).toInt ≤ 4 := hR_1073.at0 ra 44 (by decide)
                        have a_1089 : (10 * (I_1071 o 44)).toInt = 10 * (I_1071 o 44).toInt := tMulL rfl (by omega) (by omega)
                        have a_1090 : ((10 * (I_1071 o 44)) + (4 : Int32)).toInt = (10 * (I_1071 o 44)).toInt + (4 : Int32).toInt := tAdd (by omega) (by omega)
                        refine ⟨tIn (by omega) (by omega), fun I_1091 e_1092 => ?_⟩
                        have hR_1093 : RI R I_1091 := hR_1073.up ra 26 (by decide) (Or.inl rfl) e_1092 (show (-1 : Int) ≤ (I_1010 o 45).toInt by omega) (show (I_1010 o 45).toInt ≤ (700 : Int) by omega)
                        have hf_1094 : Fm (fun c => c = o ∨ (o + 26 ≤ c ∧ c < o + 34)) I0 I_1091 := hf_1076.set (by first | rfl | omega | (dsimp only; omega)) e_1092
                        have t_1095 : (I_1091 o 3).toInt = (I_1071 o 3).toInt := by rw [← e_1092, q_u_ne (by omega)]
                        have t_1096 : (I_1091 o 4).toInt = (I_1071 o 4).toInt := by rw [← e_1092, q_u_ne (by omega)]
                        have t_1097 : (I_1091 o 6).toInt = (I_1071 o 6).toInt := by rw [← e_1092, q_u_ne (by omega)]
                        have t_1098 : (I_1091 o 7).toInt = (I_1071 o 7).toInt := by rw [← e_1092, q_u_ne (by omega)]
                        have t_1099 : (I_1091 o 8).toInt = (I_1071 o 8).toInt := by rw [← e_1092, q_u_ne (by omega)]
                        have t_1100 : (I_1091 o 9).toInt = (I_1071 o 9).toInt := by rw [← e_1092, q_u_ne (by omega)]
                        have t_1101 : (I_1091 o 44).toInt = (I_1071 o 44).toInt := by rw [← e_1092, q_u_ne (by omega)]
                        have t_1102 : (I_1091 o 45).toInt = (I_1071 o 45).toInt := by rw [← e_1092, q_u_ne (by omega)]
                        have t_1103 : (I_1091 o 47).toInt = (I_1071 o 47).toInt := by rw [← e_1092, q_u_ne (by omega)]
                        have t_1104 : (I_1091 o 48).toInt = (I_1071 o 48).toInt := by rw [← e_1092, q_u_ne (by omega)]
                        have k_1106 : MPo I_1091 o := u_1069.fr (by rw [← e_1092, q_u_ne (by omega)]) (by rw [← e_1092, q_u_ne (by omega)])
                        have k_1107 : MTk I_1091 o := u_1070.fr (by rw [← e_1092, q_u_ne (by omega)]) (by rw [← e_1092, q_u_ne (by omega)]) (by rw [← e_1092, q_u_ne (by omega)])
                        have w_1108 : I_1091 (o + 28) = I0 (o + 28) := by rw [← e_1092, q_u_ne (by omega)]; exact w_1087
                        have k_1109 : MTd I_1091 o := by exact MTd.p26 k_1086 e_1092 (by omega)
                        have g_1110 : (0 : Int) ≤ (I_1091 o 44).toInt ∧ (I_1091 o 44).toInt ≤ 4 := hR_1093.at0 ra 44 (by decide)
                        have a_1111 : (10 * (I_1091 o 44)).toInt = 10 * (I_1091 o 44).toInt := tMulL rfl (by omega) (by omega)
                        have a_1112 : ((10 * (I_1091 o 44)) + (4 : Int32)).toInt = (10 * (I_1091 o 44)).toInt + (4 : Int32).toInt := tAdd (by omega) (by omega)
                        have g_1113 : (0 : Int) ≤ (I_1091 o 45).toInt ∧ (I_1091 o 45).toInt ≤ 700 := hR_1093.at0 ra 45 (by decide)
                        refine ⟨tIn (by omega) (by omega), fun I_1114 e_1115 => ?_⟩
                        have hR_1116 : RI R I_1114 := hR_1093.up ra 27 (by decide) (Or.inl rfl) e_1115 (show (0 : Int) ≤ (I_1091 o 45).toInt by omega) (show (I_1091 o 45).toInt ≤ (700 : Int) by omega)
                        have hf_1117 : Fm (fun c => c = o ∨ (o + 26 ≤ c ∧ c < o + 34)) I0 I_1114 := hf_1094.set (by first | rfl | omega | (dsimp only; omega)) e_1115
                        have t_1118 : (I_1114 o 3).toInt = (I_1091 o 3).toInt := by rw [← e_1115, q_u_ne (by omega)]
                        have t_1119 : (I_1114 o 4).toInt = (I_1091 o 4).toInt := by rw [← e_1115, q_u_ne (by omega)]
                        have t_1120 : (I_1114 o 6).toInt = (I_1091 o 6).toInt := by rw [← e_1115, q_u_ne (by omega)]
                        have t_1121 : (I_1114 o 7).toInt = (I_1091 o 7).toInt := by rw [← e_1115, q_u_ne (by omega)]
                        have t_1122 : (I_1114 o 8).toInt = (I_1091 o 8).toInt := by rw [← e_1115, q_u_ne (by omega)]
                        have t_1123 : (I_1114 o 9).toInt = (I_1091 o 9).toInt := by rw [← e_1115, q_u_ne (by omega)]
                        have t_1124 : (I_1114 o 44).toInt = (I_1091 o 44).toInt := by rw [← e_1115, q_u_ne (by omega)]
                        have t_1125 : (I_1114 o 45).toInt = (I_1091 o 45).toInt := by rw [← e_1115, q_u_ne (by omega)]
                        have t_1126 : (I_1114 o 47).toInt = (I_1091 o 47).toInt := by rw [← e_1115, q_u_ne (by omega)]
                        have t_1127 : (I_1114 o 48).toInt = (I_1091 o 48).toInt := by rw [← e_1115, q_u_ne (by omega)]
                        have k_1128 : MPo I_1114 o := k_1106.fr (by rw [← e_1115, q_u_ne (by omega)]) (by rw [← e_1115, q_u_ne (by omega)])
                        have k_1129 : MTk I_1114 o := k_1107.fr (by rw [← e_1115, q_u_ne (by omega)]) (by rw [← e_1115, q_u_ne (by omega)]) (by rw [← e_1115, q_u_ne (by omega)])
                        have w_1131 : I_1114 (o + 28) = I0 (o + 28) := by rw [← e_1115, q_u_ne (by omega)]; exact w_1108
                        have k_1132 : MTd I_1114 o := by exact MTd.p27 k_1109 e_1115 (by omega)
                        have k_1133 : ReG I_1114 o := by intro h; exact ReS.put (u_1035 (by omega)) (by omega) hm26 hm27 hm30 hm3 hm44 hm45 (by omega) (by omega) e_1092 e_1115 (by omega) (by omega)
                        have l_1134 : (5 : Int32).toInt = 5 := rfl
                        refine ⟨fun c_1135 => ?_, fun c_1135 => ?_⟩
                        · have d_1136 := iLt c_1135
                          unfold fModel_readReform_228
                          have g_1137 : (0 : Int) ≤ (I_1114 o 44).toInt ∧ (I_1114 o 44).toInt ≤ 4 := hR_1116.at0 ra 44 (by decide)
                          refine ⟨tIn (by omega) (by omega), ?_⟩
                          refine ⟨tIn (by omega) (by omega), fun I_1138 e_1139 => ?_⟩
                          have hR_1140 : RI R I_1138 := hR_1116.up ra 29 (by decide) (Or.inl rfl) e_1139 (i_lo _) (i_hi _)
                          have hf_1141 : Fm (fun c => c = o ∨ (o + 26 ≤ c ∧ c < o + 34)) I0 I_1138 := hf_1117.set (by first | rfl | omega | (dsimp only; omega)) e_1139
                          have t_1142 : (I_1138 o 3).toInt = (I_1114 o 3).toInt := by rw [← e_1139, q_u_ne (by omega)]
                          have t_1143 : (I_1138 o 4).toInt = (I_1114 o 4).toInt := by rw [← e_1139, q_u_ne (by omega)]
                          have t_1144 : (I_1138 o 6).toInt = (I_1114 o 6).toInt := by rw [← e_1139, q_u_ne (by omega)]
                          have t_1145 : (I_1138 o 7).toInt = (I_1114 o 7).toInt := by rw [← e_1139, q_u_ne (by omega)]
                          have t_1146 : (I_1138 o 8).toInt = (I_1114 o 8).toInt := by rw [← e_1139, q_u_ne (by omega)]
                          have t_1147 : (I_1138 o 9).toInt = (I_1114 o 9).toInt := by rw [← e_1139, q_u_ne (by omega)]
                          have t_1148 : (I_1138 o 44).toInt = (I_1114 o 44).toInt := by rw [← e_1139, q_u_ne (by omega)]
                          have t_1149 : (I_1138 o 45).toInt = (I_1114 o 45).toInt := by rw [← e_1139, q_u_ne (by omega)]
                          have t_1150 : (I_1138 o 47).toInt = (I_1114 o 47).toInt := by rw [← e_1139, q_u_ne (by omega)]
                          have t_1151 : (I_1138 o 48).toInt = (I_1114 o 48).toInt := by rw [← e_1139, q_u_ne (by omega)]
                          have k_1152 : MPo I_1138 o := k_1128.fr (by rw [← e_1139, q_u_ne (by omega)]) (by rw [← e_1139, q_u_ne (by omega)])
                          have k_1153 : MTk I_1138 o := k_1129.fr (by rw [← e_1139, q_u_ne (by omega)]) (by rw [← e_1139, q_u_ne (by omega)]) (by rw [← e_1139, q_u_ne (by omega)])
                          have k_1154 : MTd I_1138 o := k_1132.fr (by rw [← e_1139]; exact q_u_ne (by omega)) (by rw [← e_1139]; exact q_u_ne (by omega)) (by rw [← e_1139]; exact q_u_ne (by omega))
                          have k_1155 : ReG I_1138 o := k_1133.fr (by rw [← e_1139]; exact q_u_ne (by omega)) (by rw [← e_1139]; exact q_u_ne (by omega)) (by rw [← e_1139]; exact q_u_ne (by omega)) (by rw [← e_1139, q_u_ne (by omega)]) (by rw [← e_1139, q_u_ne (by omega)]) (by rw [← e_1139, q_u_ne (by omega)]) (by rw [← e_1139, q_u_ne (by omega)]) (by rw [← e_1139, q_u_ne (by omega)])
                          have w_1156 : I_1138 (o + 28) = I0 (o + 28) := by rw [← e_1139, q_u_ne (by omega)]; exact w_1131
                          exact (hp _ _ hR_1140 hf_1141 (by first | omega | (intro h; omega) | exact Or.inl rfl | exact Or.inr rfl) (by first | omega | (intro h; omega) | exact Or.inl rfl | exact Or.inr rfl) (by first | omega | (intro h; omega) | exact Or.inl rfl | exact Or.inr rfl) (by first | omega | (intro h; omega) | exact Or.inl rfl | exact Or.inr rfl) (by first | omega | (intro h; omega) | exact Or.inl rfl | exact Or.inr rfl) k_1154 k_1152 k_1153 k_1155)
                        · have d_1157 := iNlt c_1135
                          exfalso; omega
                      · have d_1158 := iEq c_980
                        have i_1159 := u_978 (by omega)
                        exact (hp _ _ hR hf (by first | omega | (intro h; omega) | exact Or.inl rfl | exact Or.inr rfl) (by first | omega | (intro h; omega) | exact Or.inl rfl | exact Or.inr rfl) (by first | omega | (intro h; omega) | exact Or.inl rfl | exact Or.inr rfl) (by first | omega | (intro h; omega) | exact Or.inl rfl | exact Or.inr rfl) (by first | omega | (intro h; omega) | exact Or.inl rfl | exact Or.inr rfl) hq4 hq5 hq6 (fun h => absurd h (by omega)))
                    · have d_1160 := iNlt c_973
                      refine y_Model_wrong hok hw ra hz14 hz15 hR (fun I_1164 L_1165 hR_1166 fr_1167 kp_1168 u_1162 u_1163 => ⟨I_1164, L_1165, rfl, rfl, ?_⟩)
                      have hf_1169 : Fm (fun c => c = o ∨ (o + 26 ≤ c ∧ c < o + 34)) I0 I_1164 := hf.call fr_1167 (fun c hc => by first | exact hc | (dsimp only at hc ⊢; omega) | omega)
                      have t_1170 : (I_1164 o 3).toInt = (I0 o 3).toInt := by rw [kp_1168 3 rfl]
                      have g_1171 : (0 : Int) ≤ (I_1164 o 4).toInt ∧ (I_1164 o 4).toInt ≤ 5 := hR_1166.at0 ra 4 (by decide)
                      have t_1172 : (I_1164 o 6).toInt = (I0 o 6).toInt := by rw [kp_1168 6 rfl]
                      have t_1173 : (I_1164 o 7).toInt = (I0 o 7).toInt := by rw [kp_1168 7 rfl]
                      have t_1174 : (I_1164 o 8).toInt = (I0 o 8).toInt := by rw [kp_1168 8 rfl]
                      have t_1175 : (I_1164 o 9).toInt = (I0 o 9).toInt := by rw [kp_1168 9 rfl]
                      have t_1176 : (I_1164 o 44).toInt = (I0 o 44).toInt := by rw [kp_1168 44 rfl]
                      have t_1177 : (I_1164 o 45).toInt = (I0 o 45).toInt := by rw [kp_1168 45 rfl]
                      have t_1178 : (I_1164 o 47).toInt = (I0 o 47).toInt := by rw [kp_1168 47 rfl]
                      have t_1179 : (I_1164 o 48).toInt = (I0 o 48).toInt := by rw [kp_1168 48 rfl]
                      have k_1180 : ReS I_1164 o := hq3.fr (fr_1167 _ (by first | omega | (dsimp only; omega))) (fr_1167 _ (by first | omega | (dsimp only; omega))) (fr_1167 _ (by first | omega | (dsimp only; omega))) (kp_1168 3 rfl) (kp_1168 6 rfl) (kp_1168 44 rfl) (kp_1168 45 rfl)
                      have k_1181 : MTd I_1164 o := hq4.fr (fr_1167 _ (by first | omega | (dsimp only; omega))) (fr_1167 _ (by first | omega | (dsimp only; omega))) (fr_1167 _ (by first | omega | (dsimp only; omega)))
                      have k_1182 : MPo I_1164 o := hq5.fr (kp_1168 8 rfl) (kp_1168 9 rfl)
                      have k_1183 : MTk I_1164 o := hq6.fr (kp_1168 6 rfl) (kp_1168 7 rfl) (kp_1168 8 rfl)
                      have w_1184 : I_1164 (o + 28) = I0 (o + 28) := (fr_1167 (o + 28) (by first | omega | (dsimp only; omega)))
                      refine y_Model_isGood hok hw ra hR_1166 (fun r_1185 u_1186 u_1187 u_1188 => ⟨r_1185, I_1164, L_1165, rfl, rfl, ?_⟩)
                      have b_1189 : 0 ≤ r_1185.toInt ∧ r_1185.toInt ≤ 1 := u_1186.rg
                      refine ⟨fun c_1190 => ?_, fun c_1190 => ?_⟩
                      · have d_1191 := iNe c_1190
                        have i_1192 := u_1187 (by omega)
                        have tk := k_1183.1
                        refine y_Model_next hok hw ra hz16 hz17 hz18 hz19 (by first | omega | (intro h; omega) | exact Or.inl rfl | exact Or.inr rfl) hR_1166 (fun I_1202 L_1203 hR_1204 fr_1205 kp_1206 u_1194 u_1195 u_1196 u_1197 u_1198 u_1199 u_1200 u_1201 => ⟨I_1202, L_1203, rfl, rfl, ?_⟩)
                        have hf_1207 : Fm (fun c => c = o ∨ (o + 26 ≤ c ∧ c < o + 34)) I0 I_1202 := hf_1169.call fr_1205 (fun c hc => by first | exact hc | (dsimp only at hc ⊢; omega) | omega)
                        have t_1208 : (I_1202 o 3).toInt = (I_1164 o 3).toInt := by rw [kp_1206 3 rfl]
                        have t_1209 : (I_1202 o 4).toInt = (I_1164 o 4).toInt := by rw [kp_1206 4 rfl]
                        have g_1210 : (0 : Int) ≤ (I_1202 o 6).toInt ∧ (I_1202 o 6).toInt ≤ 1600 := hR_1204.at0 ra 6 (by decide)
                        have g_1211 : (0 : Int) ≤ (I_1202 o 7).toInt ∧ (I_1202 o 7).toInt ≤ 1601 := hR_1204.at0 ra 7 (by decide)
                        have g_1212 : (0 : Int) ≤ (I_1202 o 8).toInt ∧ (I_1202 o 8).toInt ≤ 6 := hR_1204.at0 ra 8 (by decide)
                        have t_1213 : (I_1202 o 44).toInt = (I_1164 o 44).toInt := by rw [kp_1206 44 rfl]
                        have t_1214 : (I_1202 o 45).toInt = (I_1164 o 45).toInt := by rw [kp_1206 45 rfl]
                        have t_1215 : (I_1202 o 47).toInt = (I_1164 o 47).toInt := by rw [kp_1206 47 rfl]
                        have t_1216 : (I_1202 o 48).toInt = (I_1164 o 48).toInt := by rw [kp_1206 48 rfl]
                        have k_1217 : MTd I_1202 o := k_1181.fr (fr_1205 _ (by first | omega | (dsimp only; omega))) (fr_1205 _ (by first | omega | (dsimp only; omega))) (fr_1205 _ (by first | omega | (dsimp only; omega)))
                        have w_1218 : I_1202 (o + 28) = I0 (o + 28) := (fr_1205 (o + 28) (by first | omega | (dsimp only; omega))).trans w_1184
                        have ms := u_1197 (by omega)
                        have k_1219 : ReS I_1202 o := by exact ReS.at k_1180 (fr_1205 _ (by first | omega | (dsimp only; omega))) (fr_1205 _ (by first | omega | (dsimp only; omega))) (fr_1205 _ (by first | omega | (dsimp only; omega))) (kp_1206 3 rfl) (by omega) (by omega) (kp_1206 44 rfl) (kp_1206 45 rfl)
                        refine fun I_1220 e_1221 => ?_
                        have hR_1222 : RI R I_1220 := hR_1204.up0 (k := 49) ra (by decide) (Or.inr hz59) e_1221 (i_lo _) (i_hi _)
                        have hf_1223 : Fm (fun c => c = o ∨ (o + 26 ≤ c ∧ c < o + 34)) I0 I_1220 := hf_1207.set (by first | rfl | omega | (dsimp only; omega)) e_1221
                        have t_1224 : (I_1220 o 3).toInt = (I_1202 o 3).toInt := by rw [← e_1221, q_u_k (by decide)]
                        have t_1225 : (I_1220 o 4).toInt = (I_1202 o 4).toInt := by rw [← e_1221, q_u_k (by decide)]
                        have t_1226 : (I_1220 o 6).toInt = (I_1202 o 6).toInt := by rw [← e_1221, q_u_k (by decide)]
                        have t_1227 : (I_1220 o 7).toInt = (I_1202 o 7).toInt := by rw [← e_1221, q_u_k (by decide)]
                        have t_1228 : (I_1220 o 8).toInt = (I_1202 o 8).toInt := by rw [← e_1221, q_u_k (by decide)]
                        have t_1229 : (I_1220 o 9).toInt = (I_1202 o 9).toInt := by rw [← e_1221, q_u_k (by decide)]
                        have t_1230 : (I_1220 o 44).toInt = (I_1202 o 44).toInt := by rw [← e_1221, q_u_k (by decide)]
                        have t_1231 : (I_1220 o 45).toInt = (I_1202 o 45).toInt := by rw [← e_1221, q_u_k (by decide)]
                        have t_1232 : (I_1220 o 47).toInt = (I_1202 o 47).toInt := by rw [← e_1221, q_u_k (by decide)]
                        have t_1233 : (I_1220 o 48).toInt = (I_1202 o 48).toInt := by rw [← e_1221, q_u_k (by decide)]
                        have k_1234 : MTd I_1220 o := k_1217.fr (by rw [← e_1221]; exact q_u_ne (by omega)) (by rw [← e_1221]; exact q_u_ne (by omega)) (by rw [← e_1221]; exact q_u_ne (by omega))
                        have k_1235 : MPo I_1220 o := u_1200.fr (by rw [← e_1221, q_u_k (by decide)]) (by rw [← e_1221, q_u_k (by decide)])
                        have k_1236 : MTk I_1220 o := u_1201.fr (by rw [← e_1221, q_u_k (by decide)]) (by rw [← e_1221, q_u_k (by decide)]) (by rw [← e_1221, q_u_k (by decide)])
                        have k_1237 : ReS I_1220 o := k_1219.fr (by rw [← e_1221]; exact q_u_ne (by omega)) (by rw [← e_1221]; exact q_u_ne (by omega)) (by rw [← e_1221]; exact q_u_ne (by omega)) (by rw [← e_1221, q_u_k (by decide)]) (by rw [← e_1221, q_u_k (by decide)]) (by rw [← e_1221, q_u_k (by decide)]) (by rw [← e_1221, q_u_k (by decide)])
                        have w_1238 : I_1220 (o + 28) = I0 (o + 28) := by rw [← e_1221, q_u_ne (by omega)]; exact w_1218
                        have g_1239 : (0 : Int) ≤ (I_1220 o 45).toInt ∧ (I_1220 o 45).toInt ≤ 700 := hR_1222.at0 ra 45 (by decide)
                        refine y_Model_e hok hw ra hz14 hz15 hz16 hz17 hz18 hz19 hz55 hz56 hz57 hz58 (by first | omega | (intro h; omega) | exact Or.inl rfl | exact Or.inr rfl) (by first | omega | (intro h; omega) | exact Or.inl rfl | exact Or.inr rfl) k_1237 k_1234 k_1235 k_1236 hR_1222 (fun I_1249 L_1250 hR_1251 fr_1252 kp_1253 u_1241 u_1242 u_1243 u_1244 u_1245 u_1246 u_1247 u_1248 => ⟨I_1249, L_1250, rfl, rfl, ?_⟩)
                        have hf_1254 : Fm (fun c => c = o ∨ (o + 26 ≤ c ∧ c < o + 34)) I0 I_1249 := hf_1223.call fr_1252 (fun c hc => by first | exact hc | (dsimp only at hc ⊢; omega) | omega)
                        have t_1255 : (I_1249 o 3).toInt = (I_1220 o 3).toInt := by rw [kp_1253 3 rfl]
                        have g_1256 : (0 : Int) ≤ (I_1249 o 4).toInt ∧ (I_1249 o 4).toInt ≤ 5 := hR_1251.at0 ra 4 (by decide)
                        have g_1257 : (0 : Int) ≤ (I_1249 o 6).toInt ∧ (I_1249 o 6).toInt ≤ 1600 := hR_1251.at0 ra 6 (by decide)
                        have g_1258 : (0 : Int) ≤ (I_1249 o 7).toInt ∧ (I_1249 o 7).toInt ≤ 1601 := hR_1251.at0 ra 7 (by decide)
                        have g_1259 : (0 : Int) ≤ (I_1249 o 8).toInt ∧ (I_1249 o 8).toInt ≤ 6 := hR_1251.at0 ra 8 (by decide)
                        have t_1260 : (I_1249 o 44).toInt = (I_1220 o 44).toInt := by rw [kp_1253 44 rfl]
                        have g_1261 : (0 : Int) ≤ (I_1249 o 45).toInt ∧ (I_1249 o 45).toInt ≤ 700 := hR_1251.at0 ra 45 (by decide)
                        have g_1262 : (0 : Int) ≤ (I_1249 o 47).toInt ∧ (I_1249 o 47).toInt ≤ 7 := hR_1251.at0 ra 47 (by decide)
                        have g_1263 : (0 : Int) ≤ (I_1249 o 48).toInt ∧ (I_1249 o 48).toInt ≤ 80 := hR_1251.at0 ra 48 (by decide)
                        have w_1264 : I_1249 (o + 28) = I0 (o + 28) := (fr_1252 (o + 28) (by first | omega | (dsimp only; omega))).trans w_1238
                        have l_1265 : (59 : Int32).toInt = 59 := rfl
                        refine y_Model_is hok hw ra hR_1251 (fun r_1266 u_1267 u_1268 u_1269 => ⟨r_1266, I_1249, L_1250, rfl, rfl, ?_⟩)
                        have b_1270 : 0 ≤ r_1266.toInt ∧ r_1266.toInt ≤ 1 := u_1267.rg
                        refine y_Model_must hok hw ra hz14 hz15 hz16 hz17 hz18 hz19 (by first | omega | (intro h; omega) | exact Or.inl rfl | exact Or.inr rfl) u_1247 u_1248 hR_1251 (fun I_1281 L_1282 hR_1283 fr_1284 kp_1285 u_1272 u_1273 u_1274 u_1275 u_1276 u_1277 u_1278 u_1279 u_1280 => ⟨I_1281, L_1282, rfl, rfl, ?_⟩)
                        have hf_1286 : Fm (fun c => c = o ∨ (o + 26 ≤ c ∧ c < o + 34)) I0 I_1281 := hf_1254.call fr_1284 (fun c hc => by first | exact hc | (dsimp only at hc ⊢; omega) | omega)
                        have t_1287 : (I_1281 o 3).toInt = (I_1249 o 3).toInt := by rw [kp_1285 3 rfl]
                        have g_1288 : (0 : Int) ≤ (I_1281 o 4).toInt ∧ (I_1281 o 4).toInt ≤ 5 := hR_1283.at0 ra 4 (by decide)
                        have g_1289 : (0 : Int) ≤ (I_1281 o 6).toInt ∧ (I_1281 o 6).toInt ≤ 1600 := hR_1283.at0 ra 6 (by decide)
                        have g_1290 : (0 : Int) ≤ (I_1281 o 7).toInt ∧ (I_1281 o 7).toInt ≤ 1601 := hR_1283.at0 ra 7 (by decide)
                        have g_1291 : (0 : Int) ≤ (I_1281 o 8).toInt ∧ (I_1281 o 8).toInt ≤ 6 := hR_1283.at0 ra 8 (by decide)
                        have t_1292 : (I_1281 o 44).toInt = (I_1249 o 44).toInt := by rw [kp_1285 44 rfl]
                        have t_1293 : (I_1281 o 45).toInt = (I_1249 o 45).toInt := by rw [kp_1285 45 rfl]
                        have t_1294 : (I_1281 o 47).toInt = (I_1249 o 47).toInt := by rw [kp_1285 47 rfl]
                        have t_1295 : (I_1281 o 48).toInt = (I_1249 o 48).toInt := by rw [kp_1285 48 rfl]
                        have k_1296 : MTd I_1281 o := u_1246.fr (fr_1284 _ (by first | omega | (dsimp only; omega))) (fr_1284 _ (by first | omega | (dsimp only; omega))) (fr_1284 _ (by first | omega | (dsimp only; omega)))
                        have w_1297 : I_1281 (o + 28) = I0 (o + 28) := (fr_1284 (o + 28) (by first | omega | (dsimp only; omega))).trans w_1264
                        have hm26 := fr_1284 (o + 26) (by first | omega | (dsimp only; omega))
                        have hm27 := fr_1284 (o + 27) (by first | omega | (dsimp only; omega))
                        have hm30 := fr_1284 (o + 30) (by first | omega | (dsimp only; omega))
                        have hm3 := kp_1285 3 rfl
                        have hm44 := kp_1285 44 rfl
                        have hm45 := kp_1285 45 rfl
                        have tk2 := u_1280.1
                        have g_1298 : (0 : Int) ≤ (I_1281 o 44).toInt ∧ (I_1281 o 44).toInt ≤ 4 := hR_1283.at0 ra 44 (by decide)
                        have a_1299 : (10 * (I_1281 o 44)).toInt = 10 * (I_1281 o 44).toInt := tMulL rfl (by omega) (by omega)
                        have a_1300 : ((10 * (I_1281 o 44)) + (4 : Int32)).toInt = (10 * (I_1281 o 44)).toInt + (4 : Int32).toInt := tAdd (by omega) (by omega)
                        refine ⟨tIn (by omega) (by omega), fun I_1301 e_1302 => ?_⟩
                        have hR_1303 : RI R I_1301 := hR_1283.up ra 26 (by decide) (Or.inl rfl) e_1302 (show (-1 : Int) ≤ (I_1220 o 45).toInt by omega) (show (I_1220 o 45).toInt ≤ (700 : Int) by omega)
                        have hf_1304 : Fm (fun c => c = o ∨ (o + 26 ≤ c ∧ c < o + 34)) I0 I_1301 := hf_1286.set (by first | rfl | omega | (dsimp only; omega)) e_1302
                        have t_1305 : (I_1301 o 3).toInt = (I_1281 o 3).toInt := by rw [← e_1302, q_u_ne (by omega)]
                        have t_1306 : (I_1301 o 4).toInt = (I_1281 o 4).toInt := by rw [← e_1302, q_u_ne (by omega)]
                        have t_1307 : (I_1301 o 6).toInt = (I_1281 o 6).toInt := by rw [← e_1302, q_u_ne (by omega)]
                        have t_1308 : (I_1301 o 7).toInt = (I_1281 o 7).toInt := by rw [← e_1302, q_u_ne (by omega)]
                        have t_1309 : (I_1301 o 8).toInt = (I_1281 o 8).toInt := by rw [← e_1302, q_u_ne (by omega)]
                        have t_1310 : (I_1301 o 9).toInt = (I_1281 o 9).toInt := by rw [← e_1302, q_u_ne (by omega)]
                        have t_1311 : (I_1301 o 44).toInt = (I_1281 o 44).toInt := by rw [← e_1302, q_u_ne (by omega)]
                        have t_1312 : (I_1301 o 45).toInt = (I_1281 o 45).toInt := by rw [← e_1302, q_u_ne (by omega)]
                        have t_1313 : (I_1301 o 47).toInt = (I_1281 o 47).toInt := by rw [← e_1302, q_u_ne (by omega)]
                        have t_1314 : (I_1301 o 48).toInt = (I_1281 o 48).toInt := by rw [← e_1302, q_u_ne (by omega)]
                        have k_1316 : MPo I_1301 o := u_1279.fr (by rw [← e_1302, q_u_ne (by omega)]) (by rw [← e_1302, q_u_ne (by omega)])
                        have k_1317 : MTk I_1301 o := u_1280.fr (by rw [← e_1302, q_u_ne (by omega)]) (by rw [← e_1302, q_u_ne (by omega)]) (by rw [← e_1302, q_u_ne (by omega)])
                        have w_1318 : I_1301 (o + 28) = I0 (o + 28) := by rw [← e_1302, q_u_ne (by omega)]; exact w_1297
                        have k_1319 : MTd I_1301 o := by exact MTd.p26 k_1296 e_1302 (by omega)
                        have g_1320 : (0 : Int) ≤ (I_1301 o 44).toInt ∧ (I_1301 o 44).toInt ≤ 4 := hR_1303.at0 ra 44 (by decide)
                        have a_1321 : (10 * (I_1301 o 44)).toInt = 10 * (I_1301 o 44).toInt := tMulL rfl (by omega) (by omega)
                        have a_1322 : ((10 * (I_1301 o 44)) + (4 : Int32)).toInt = (10 * (I_1301 o 44)).toInt + (4 : Int32).toInt := tAdd (by omega) (by omega)
                        have g_1323 : (0 : Int) ≤ (I_1301 o 45).toInt ∧ (I_1301 o 45).toInt ≤ 700 := hR_1303.at0 ra 45 (by decide)
                        refine ⟨tIn (by omega) (by omega), fun I_1324 e_1325 => ?_⟩
                        have hR_1326 : RI R I_1324 := hR_1303.up ra 27 (by decide) (Or.inl rfl) e_1325 (show (0 : Int) ≤ (I_1301 o 45).toInt by omega) (show (I_1301 o 45).toInt ≤ (700 : Int) by omega)
                        have hf_1327 : Fm (fun c => c = o ∨ (o + 26 ≤ c ∧ c < o + 34)) I0 I_1324 := hf_1304.set (by first | rfl | omega | (dsimp only; omega)) e_1325
                        have t_1328 : (I_1324 o 3).toInt = (I_1301 o 3).toInt := by rw [← e_1325, q_u_ne (by omega)]
                        have t_1329 : (I_1324 o 4).toInt = (I_1301 o 4).toInt := by rw [← e_1325, q_u_ne (by omega)]
                        have t_1330 : (I_1324 o 6).toInt = (I_1301 o 6).toInt := by rw [← e_1325, q_u_ne (by omega)]
                        have t_1331 : (I_1324 o 7).toInt = (I_1301 o 7).toInt := by rw [← e_1325, q_u_ne (by omega)]
                        have t_1332 : (I_1324 o 8).toInt = (I_1301 o 8).toInt := by rw [← e_1325, q_u_ne (by omega)]
                        have t_1333 : (I_1324 o 9).toInt = (I_1301 o 9).toInt := by rw [← e_1325, q_u_ne (by omega)]
                        have t_1334 : (I_1324 o 44).toInt = (I_1301 o 44).toInt := by rw [← e_1325, q_u_ne (by omega)]
                        have t_1335 : (I_1324 o 45).toInt = (I_1301 o 45).toInt := by rw [← e_1325, q_u_ne (by omega)]
                        have t_1336 : (I_1324 o 47).toInt = (I_1301 o 47).toInt := by rw [← e_1325, q_u_ne (by omega)]
                        have t_1337 : (I_1324 o 48).toInt = (I_1301 o 48).toInt := by rw [← e_1325, q_u_ne (by omega)]
                        have k_1338 : MPo I_1324 o := k_1316.fr (by rw [← e_1325, q_u_ne (by omega)]) (by rw [← e_1325, q_u_ne (by omega)])
                        have k_1339 : MTk I_1324 o := k_1317.fr (by rw [← e_1325, q_u_ne (by omega)]) (by rw [← e_1325, q_u_ne (by omega)]) (by rw [← e_1325, q_u_ne (by omega)])
                        have w_1341 : I_1324 (o + 28) = I0 (o + 28) := by rw [← e_1325, q_u_ne (by omega)]; exact w_1318
                        have k_1342 : MTd I_1324 o := by exact MTd.p27 k_1319 e_1325 (by omega)
                        have k_1343 : ReG I_1324 o := by intro h; exact ReS.put (u_1245 (by omega)) (by omega) hm26 hm27 hm30 hm3 hm44 hm45 (by omega) (by omega) e_1302 e_1325 (by omega) (by omega)
                        have l_1344 : (5 : Int32).toInt = 5 := rfl
                        refine ⟨fun c_1345 => ?_, fun c_1345 => ?_⟩
                        · have d_1346 := iLt c_1345
                          unfold fModel_readReform_228
                          have g_1347 : (0 : Int) ≤ (I_1324 o 44).toInt ∧ (I_1324 o 44).toInt ≤ 4 := hR_1326.at0 ra 44 (by decide)
                          refine ⟨tIn (by omega) (by omega), ?_⟩
                          refine ⟨tIn (by omega) (by omega), fun I_1348 e_1349 => ?_⟩
                          have hR_1350 : RI R I_1348 := hR_1326.up ra 29 (by decide) (Or.inl rfl) e_1349 (i_lo _) (i_hi _)
                          have hf_1351 : Fm (fun c => c = o ∨ (o + 26 ≤ c ∧ c < o + 34)) I0 I_1348 := hf_1327.set (by first | rfl | omega | (dsimp only; omega)) e_1349
                          have t_1352 : (I_1348 o 3).toInt = (I_1324 o 3).toInt := by rw [← e_1349, q_u_ne (by omega)]
                          have t_1353 : (I_1348 o 4).toInt = (I_1324 o 4).toInt := by rw [← e_1349, q_u_ne (by omega)]
                          have t_1354 : (I_1348 o 6).toInt = (I_1324 o 6).toInt := by rw [← e_1349, q_u_ne (by omega)]
                          have t_1355 : (I_1348 o 7).toInt = (I_1324 o 7).toInt := by rw [← e_1349, q_u_ne (by omega)]
                          have t_1356 : (I_1348 o 8).toInt = (I_1324 o 8).toInt := by rw [← e_1349, q_u_ne (by omega)]
                          have t_1357 : (I_1348 o 9).toInt = (I_1324 o 9).toInt := by rw [← e_1349, q_u_ne (by omega)]
                          have t_1358 : (I_1348 o 44).toInt = (I_1324 o 44).toInt := by rw [← e_1349, q_u_ne (by omega)]
                          have t_1359 : (I_1348 o 45).toInt = (I_1324 o 45).toInt := by rw [← e_1349, q_u_ne (by omega)]
                          have t_1360 : (I_1348 o 47).toInt = (I_1324 o 47).toInt := by rw [← e_1349, q_u_ne (by omega)]
                          have t_1361 : (I_1348 o 48).toInt = (I_1324 o 48).toInt := by rw [← e_1349, q_u_ne (by omega)]
                          have k_1362 : MPo I_1348 o := k_1338.fr (by rw [← e_1349, q_u_ne (by omega)]) (by rw [← e_1349, q_u_ne (by omega)])
                          have k_1363 : MTk I_1348 o := k_1339.fr (by rw [← e_1349, q_u_ne (by omega)]) (by rw [← e_1349, q_u_ne (by omega)]) (by rw [← e_1349, q_u_ne (by omega)])
                          have k_1364 : MTd I_1348 o := k_1342.fr (by rw [← e_1349]; exact q_u_ne (by omega)) (by rw [← e_1349]; exact q_u_ne (by omega)) (by rw [← e_1349]; exact q_u_ne (by omega))
                          have k_1365 : ReG I_1348 o := k_1343.fr (by rw [← e_1349]; exact q_u_ne (by omega)) (by rw [← e_1349]; exact q_u_ne (by omega)) (by rw [← e_1349]; exact q_u_ne (by omega)) (by rw [← e_1349, q_u_ne (by omega)]) (by rw [← e_1349, q_u_ne (by omega)]) (by rw [← e_1349, q_u_ne (by omega)]) (by rw [← e_1349, q_u_ne (by omega)]) (by rw [← e_1349, q_u_ne (by omega)])
                          have w_1366 : I_1348 (o + 28) = I0 (o + 28) := by rw [← e_1349, q_u_ne (by omega)]; exact w_1341
                          exact (hp _ _ hR_1350 hf_1351 (by first | omega | (intro h; omega) | exact Or.inl rfl | exact Or.inr rfl) (by first | omega | (intro h; omega) | exact Or.inl rfl | exact Or.inr rfl) (by first | omega | (intro h; omega) | exact Or.inl rfl | exact Or.inr rfl) (by first | omega | (intro h; omega) | exact Or.inl rfl | exact Or.inr rfl) (by first | omega | (intro h; omega) | exact Or.inl rfl | exact Or.inr rfl) k_1364 k_1362 k_1363 k_1365)
                        · have d_1367 := iNlt c_1345
                          exfalso; omega
                      · have d_1368 := iEq c_1190
                        have i_1369 := u_1188 (by omega)
                        exact (hp _ _ hR_1166 hf_1169 (by first | omega | (intro h; omega) | exact Or.inl rfl | exact Or.inr rfl) (by first | omega | (intro h; omega) | exact Or.inl rfl | exact Or.inr rfl) (by first | omega | (intro h; omega) | exact Or.inl rfl | exact Or.inr rfl) (by first | omega | (intro h; omega) | exact Or.inl rfl | exact Or.inr rfl) (by first | omega | (intro h; omega) | exact Or.inl rfl | exact Or.inr rfl) k_1181 k_1182 k_1183 (fun h => absurd h (by omega)))
                  · have d_1370 := iNlt c_969
                    exfalso; omega
        · have d_1371 := iNe c_37
          have i_1372 := u_35 (by omega)
          unfold fModel_readReform_95
          have l_1373 : (3 : Int32).toInt = 3 := rfl
          refine ⟨fun c_1374 => ?_, fun c_1374 => ?_⟩
          · have d_1375 := iLt c_1374
            exfalso; omega
          · have d_1376 := iNlt c_1374
            have l_1377 : (10 : Int32).toInt = 10 := rfl
            refine ⟨fun c_1378 => ?_, fun c_1378 => ?_⟩
            · have d_1379 := iEq c_1378
              exfalso; omega
            · have d_1380 := iNe c_1378
              have g_1381 : (0 : Int) ≤ (I0 o 44).toInt ∧ (I0 o 44).toInt ≤ 4 := hR.at0 ra 44 (by decide)
              have a_1382 : (10 * (I0 o 44)).toInt = 10 * (I0 o 44).toInt := tMulL rfl (by omega) (by omega)
              refine ⟨fun c_1383 => ?_, fun c_1383 => ?_⟩
              · have d_1384 := iLt c_1383
                exfalso; omega
              · have d_1385 := iNlt c_1383
                refine ⟨fun c_1386 => ?_, fun c_1386 => ?_⟩
                · have d_1387 := iLt c_1386
                  unfold fModel_readReform_132
                  have a_1388 : ((10 * (I0 o 44)) + (3 : Int32)).toInt = (10 * (I0 o 44)).toInt + (3 : Int32).toInt := tAdd (by omega) (by omega)
                  refine ⟨tIn (by omega) (by omega), ?_⟩
                  have g_1389 : (-1 : Int) ≤ (I0 (o + 26) (((10 * (I0 o 44)) + (3 : Int32)) : Int32).toNatClampNeg).toInt ∧ (I0 (o + 26) (((10 * (I0 o 44)) + (3 : Int32)) : Int32).toNatClampNeg).toInt ≤ 700 := hR.at ra 26 _ (by decide)
                  refine ⟨fun c_1390 => ?_, fun c_1390 => ?_⟩
                  · have d_1391 := iLt c_1390
                    refine y_Model_isGood hok hw ra hR (fun r_1392 u_1393 u_1394 u_1395 => ⟨r_1392, I0, L0, rfl, rfl, ?_⟩)
                    have b_1396 : 0 ≤ r_1392.toInt ∧ r_1392.toInt ≤ 1 := u_1393.rg
                    refine ⟨fun c_1397 => ?_, fun c_1397 => ?_⟩
                    · have d_1398 := iNe c_1397
                      have i_1399 := u_1394 (by omega)
                      have tk := hq6.1
                      refine y_Model_next hok hw ra hz16 hz17 hz18 hz19 (by first | omega | (intro h; omega) | exact Or.inl rfl | exact Or.inr rfl) hR (fun I_1409 L_1410 hR_1411 fr_1412 kp_1413 u_1401 u_1402 u_1403 u_1404 u_1405 u_1406 u_1407 u_1408 => ⟨I_1409, L_1410, rfl, rfl, ?_⟩)
                      have hf_1414 : Fm (fun c => c = o ∨ (o + 26 ≤ c ∧ c < o + 34)) I0 I_1409 := hf.call fr_1412 (fun c hc => by first | exact hc | (dsimp only at hc ⊢; omega) | omega)
                      have t_1415 : (I_1409 o 3).toInt = (I0 o 3).toInt := by rw [kp_1413 3 rfl]
                      have t_1416 : (I_1409 o 4).toInt = (I0 o 4).toInt := by rw [kp_1413 4 rfl]
                      have g_1417 : (0 : Int) ≤ (I_1409 o 6).toInt ∧ (I_1409 o 6).toInt ≤ 1600 := hR_1411.at0 ra 6 (by decide)
                      have g_1418 : (0 : Int) ≤ (I_1409 o 7).toInt ∧ (I_1409 o 7).toInt ≤ 1601 := hR_1411.at0 ra 7 (by decide)
                      have g_1419 : (0 : Int) ≤ (I_1409 o 8).toInt ∧ (I_1409 o 8).toInt ≤ 6 := hR_1411.at0 ra 8 (by decide)
                      have t_1420 : (I_1409 o 44).toInt = (I0 o 44).toInt := by rw [kp_1413 44 rfl]
                      have t_1421 : (I_1409 o 45).toInt = (I0 o 45).toInt := by rw [kp_1413 45 rfl]
                      have t_1422 : (I_1409 o 47).toInt = (I0 o 47).toInt := by rw [kp_1413 47 rfl]
                      have t_1423 : (I_1409 o 48).toInt = (I0 o 48).toInt := by rw [kp_1413 48 rfl]
                      have k_1424 : MTd I_1409 o := hq4.fr (fr_1412 _ (by first | omega | (dsimp only; omega))) (fr_1412 _ (by first | omega | (dsimp only; omega))) (fr_1412 _ (by first | omega | (dsimp only; omega)))
                      have w_1425 : I_1409 (o + 28) = I0 (o + 28) := (fr_1412 (o + 28) (by first | omega | (dsimp only; omega)))
                      have ms := u_1404 (by omega)
                      have k_1426 : ReS I_1409 o := by exact ReS.at hq3 (fr_1412 _ (by first | omega | (dsimp only; omega))) (fr_1412 _ (by first | omega | (dsimp only; omega))) (fr_1412 _ (by first | omega | (dsimp only; omega))) (kp_1413 3 rfl) (by omega) (by omega) (kp_1413 44 rfl) (kp_1413 45 rfl)
                      refine fun I_1427 e_1428 => ?_
                      have hR_1429 : RI R I_1427 := hR_1411.up0 (k := 49) ra (by decide) (Or.inr hz59) e_1428 (i_lo _) (i_hi _)
                      have hf_1430 : Fm (fun c => c = o ∨ (o + 26 ≤ c ∧ c < o + 34)) I0 I_1427 := hf_1414.set (by first | rfl | omega | (dsimp only; omega)) e_1428
                      have t_1431 : (I_1427 o 3).toInt = (I_1409 o 3).toInt := by rw [← e_1428, q_u_k (by decide)]
                      have t_1432 : (I_1427 o 4).toInt = (I_1409 o 4).toInt := by rw [← e_1428, q_u_k (by decide)]
                      have t_1433 : (I_1427 o 6).toInt = (I_1409 o 6).toInt := by rw [← e_1428, q_u_k (by decide)]
                      have t_1434 : (I_1427 o 7).toInt = (I_1409 o 7).toInt := by rw [← e_1428, q_u_k (by decide)]
                      have t_1435 : (I_1427 o 8).toInt = (I_1409 o 8).toInt := by rw [← e_1428, q_u_k (by decide)]
                      have t_1436 : (I_1427 o 9).toInt = (I_1409 o 9).toInt := by rw [← e_1428, q_u_k (by decide)]
                      have t_1437 : (I_1427 o 44).toInt = (I_1409 o 44).toInt := by rw [← e_1428, q_u_k (by decide)]
                      have t_1438 : (I_1427 o 45).toInt = (I_1409 o 45).toInt := by rw [← e_1428, q_u_k (by decide)]
                      have t_1439 : (I_1427 o 47).toInt = (I_1409 o 47).toInt := by rw [← e_1428, q_u_k (by decide)]
                      have t_1440 : (I_1427 o 48).toInt = (I_1409 o 48).toInt := by rw [← e_1428, q_u_k (by decide)]
                      have k_1441 : MTd I_1427 o := k_1424.fr (by rw [← e_1428]; exact q_u_ne (by omega)) (by rw [← e_1428]; exact q_u_ne (by omega)) (by rw [← e_1428]; exact q_u_ne (by omega))
                      have k_1442 : MPo I_1427 o := u_1407.fr (by rw [← e_1428, q_u_k (by decide)]) (by rw [← e_1428, q_u_k (by decide)])
                      have k_1443 : MTk I_1427 o := u_1408.fr (by rw [← e_1428, q_u_k (by decide)]) (by rw [← e_1428, q_u_k (by decide)]) (by rw [← e_1428, q_u_k (by decide)])
                      have k_1444 : ReS I_1427 o := k_1426.fr (by rw [← e_1428]; exact q_u_ne (by omega)) (by rw [← e_1428]; exact q_u_ne (by omega)) (by rw [← e_1428]; exact q_u_ne (by omega)) (by rw [← e_1428, q_u_k (by decide)]) (by rw [← e_1428, q_u_k (by decide)]) (by rw [← e_1428, q_u_k (by decide)]) (by rw [← e_1428, q_u_k (by decide)])
                      have w_1445 : I_1427 (o + 28) = I0 (o + 28) := by rw [← e_1428, q_u_ne (by omega)]; exact w_1425
                      have g_1446 : (0 : Int) ≤ (I_1427 o 45).toInt ∧ (I_1427 o 45).toInt ≤ 700 := hR_1429.at0 ra 45 (by decide)
                      refine y_Model_e hok hw ra hz14 hz15 hz16 hz17 hz18 hz19 hz55 hz56 hz57 hz58 (by first | omega | (intro h; omega) | exact Or.inl rfl | exact Or.inr rfl) (by first | omega | (intro h; omega) | exact Or.inl rfl | exact Or.inr rfl) k_1444 k_1441 k_1442 k_1443 hR_1429 (fun I_1456 L_1457 hR_1458 fr_1459 kp_1460 u_1448 u_1449 u_1450 u_1451 u_1452 u_1453 u_1454 u_1455 => ⟨I_1456, L_1457, rfl, rfl, ?_⟩)
                      have hf_1461 : Fm (fun c => c = o ∨ (o + 26 ≤ c ∧ c < o + 34)) I0 I_1456 := hf_1430.call fr_1459 (fun c hc => by first | exact hc | (dsimp only at hc ⊢; omega) | omega)
                      have t_1462 : (I_1456 o 3).toInt = (I_1427 o 3).toInt := by rw [kp_1460 3 rfl]
                      have g_1463 : (0 : Int) ≤ (I_1456 o 4).toInt ∧ (I_1456 o 4).toInt ≤ 5 := hR_1458.at0 ra 4 (by decide)
                      have g_1464 : (0 : Int) ≤ (I_1456 o 6).toInt ∧ (I_1456 o 6).toInt ≤ 1600 := hR_1458.at0 ra 6 (by decide)
                      have g_1465 : (0 : Int) ≤ (I_1456 o 7).toInt ∧ (I_1456 o 7).toInt ≤ 1601 := hR_1458.at0 ra 7 (by decide)
                      have g_1466 : (0 : Int) ≤ (I_1456 o 8).toInt ∧ (I_1456 o 8).toInt ≤ 6 := hR_1458.at0 ra 8 (by decide)
                      have t_1467 : (I_1456 o 44).toInt = (I_1427 o 44).toInt := by rw [kp_1460 44 rfl]
                      have g_1468 : (0 : Int) ≤ (I_1456 o 45).toInt ∧ (I_1456 o 45).toInt ≤ 700 := hR_1458.at0 ra 45 (by decide)
                      have g_1469 : (0 : Int) ≤ (I_1456 o 47).toInt ∧ (I_1456 o 47).toInt ≤ 7 := hR_1458.at0 ra 47 (by decide)
                      have g_1470 : (0 : Int) ≤ (I_1456 o 48).toInt ∧ (I_1456 o 48).toInt ≤ 80 := hR_1458.at0 ra 48 (by decide)
                      have w_1471 : I_1456 (o + 28) = I0 (o + 28) := (fr_1459 (o + 28) (by first | omega | (dsimp only; omega))).trans w_1445
                      have l_1472 : (59 : Int32).toInt = 59 := rfl
                      refine y_Model_is hok hw ra hR_1458 (fun r_1473 u_1474 u_1475 u_1476 => ⟨r_1473, I_1456, L_1457, rfl, rfl, ?_⟩)
                      have b_1477 : 0 ≤ r_1473.toInt ∧ r_1473.toInt ≤ 1 := u_1474.rg
                      refine y_Model_must hok hw ra hz14 hz15 hz16 hz17 hz18 hz19 (by first | omega | (intro h; omega) | exact Or.inl rfl | exact Or.inr rfl) u_1454 u_1455 hR_1458 (fun I_1488 L_1489 hR_1490 fr_1491 kp_1492 u_1479 u_1480 u_1481 u_1482 u_1483 u_1484 u_1485 u_1486 u_1487 => ⟨I_1488, L_1489, rfl, rfl, ?_⟩)
                      have hf_1493 : Fm (fun c => c = o ∨ (o + 26 ≤ c ∧ c < o + 34)) I0 I_1488 := hf_1461.call fr_1491 (fun c hc => by first | exact hc | (dsimp only at hc ⊢; omega) | omega)
                      have t_1494 : (I_1488 o 3).toInt = (I_1456 o 3).toInt := by rw [kp_1492 3 rfl]
                      have g_1495 : (0 : Int) ≤ (I_1488 o 4).toInt ∧ (I_1488 o 4).toInt ≤ 5 := hR_1490.at0 ra 4 (by decide)
                      have g_1496 : (0 : Int) ≤ (I_1488 o 6).toInt ∧ (I_1488 o 6).toInt ≤ 1600 := hR_1490.at0 ra 6 (by decide)
                      have g_1497 : (0 : Int) ≤ (I_1488 o 7).toInt ∧ (I_1488 o 7).toInt ≤ 1601 := hR_1490.at0 ra 7 (by decide)
                      have g_1498 : (0 : Int) ≤ (I_1488 o 8).toInt ∧ (I_1488 o 8).toInt ≤ 6 := hR_1490.at0 ra 8 (by decide)
                      have t_1499 : (I_1488 o 44).toInt = (I_1456 o 44).toInt := by rw [kp_1492 44 rfl]
                      have t_1500 : (I_1488 o 45).toInt = (I_1456 o 45).toInt := by rw [kp_1492 45 rfl]
                      have t_1501 : (I_1488 o 47).toInt = (I_1456 o 47).toInt := by rw [kp_1492 47 rfl]
                      have t_1502 : (I_1488 o 48).toInt = (I_1456 o 48).toInt := by rw [kp_1492 48 rfl]
                      have k_1503 : MTd I_1488 o := u_1453.fr (fr_1491 _ (by first | omega | (dsimp only; omega))) (fr_1491 _ (by first | omega | (dsimp only; omega))) (fr_1491 _ (by first | omega | (dsimp only; omega)))
                      have w_1504 : I_1488 (o + 28) = I0 (o + 28) := (fr_1491 (o + 28) (by first | omega | (dsimp only; omega))).trans w_1471
                      have hm26 := fr_1491 (o + 26) (by first | omega | (dsimp only; omega))
                      have hm27 := fr_1491 (o + 27) (by first | omega | (dsimp only; omega))
                      have hm30 := fr_1491 (o + 30) (by first | omega | (dsimp only; omega))
                      have hm3 := kp_1492 3 rfl
                      have hm44 := kp_1492 44 rfl
                      have hm45 := kp_1492 45 rfl
                      have tk2 := u_1487.1
                      have g_1505 : (0 : Int) ≤ (I_1488 o 44).toInt ∧ (I_1488 o 44).toInt ≤ 4 := hR_1490.at0 ra 44 (by decide)
                      have a_1506 : (10 * (I_1488 o 44)).toInt = 10 * (I_1488 o 44).toInt := tMulL rfl (by omega) (by omega)
                      have a_1507 : ((10 * (I_1488 o 44)) + (3 : Int32)).toInt = (10 * (I_1488 o 44)).toInt + (3 : Int32).toInt := tAdd (by omega) (by omega)
                      refine ⟨tIn (by omega) (by omega), fun I_1508 e_1509 => ?_⟩
                      have hR_1510 : RI R I_1508 := hR_1490.up ra 26 (by decide) (Or.inl rfl) e_1509 (show (-1 : Int) ≤ (I_1427 o 45).toInt by omega) (show (I_1427 o 45).toInt ≤ (700 : Int) by omega)
                      have hf_1511 : Fm (fun c => c = o ∨ (o + 26 ≤ c ∧ c < o + 34)) I0 I_1508 := hf_1493.set (by first | rfl | omega | (dsimp only; omega)) e_1509
                      have t_1512 : (I_1508 o 3).toInt = (I_1488 o 3).toInt := by rw [← e_1509, q_u_ne (by omega)]
                      have t_1513 : (I_1508 o 4).toInt = (I_1488 o 4).toInt := by rw [← e_1509, q_u_ne (by omega)]
                      have t_1514 : (I_1508 o 6).toInt = (I_1488 o 6).toInt := by rw [← e_1509, q_u_ne (by omega)]
                      have t_1515 : (I_1508 o 7).toInt = (I_1488 o 7).toInt := by rw [← e_1509, q_u_ne (by omega)]
                      have t_1516 : (I_1508 o 8).toInt = (I_1488 o 8).toInt := by rw [← e_1509, q_u_ne (by omega)]
                      have t_1517 : (I_1508 o 9).toInt = (I_1488 o 9).toInt := by rw [← e_1509, q_u_ne (by omega)]
                      have t_1518 : (I_1508 o 44).toInt = (I_1488 o 44).toInt := by rw [← e_1509, q_u_ne (by omega)]
                      have t_1519 : (I_1508 o 45).toInt = (I_1488 o 45).toInt := by rw [← e_1509, q_u_ne (by omega)]
                      have t_1520 : (I_1508 o 47).toInt = (I_1488 o 47).toInt := by rw [← e_1509, q_u_ne (by omega)]
                      have t_1521 : (I_1508 o 48).toInt = (I_1488 o 48).toInt := by rw [← e_1509, q_u_ne (by omega)]
                      have k_1523 : MPo I_1508 o := u_1486.fr (by rw [← e_1509, q_u_ne (by omega)]) (by rw [← e_1509, q_u_ne (by omega)])
                      have k_1524 : MTk I_1508 o := u_1487.fr (by rw [← e_1509, q_u_ne (by omega)]) (by rw [← e_1509, q_u_ne (by omega)]) (by rw [← e_1509, q_u_ne (by omega)])
                      have w_1525 : I_1508 (o + 28) = I0 (o + 28) := by rw [← e_1509, q_u_ne (by omega)]; exact w_1504
                      have k_1526 : MTd I_1508 o := by exact MTd.p26 k_1503 e_1509 (by omega)
                      have g_1527 : (0 : Int) ≤ (I_1508 o 44).toInt ∧ (I_1508 o 44).toInt ≤ 4 := hR_1510.at0 ra 44 (by decide)
                      have a_1528 : (10 * (I_1508 o 44)).toInt = 10 * (I_1508 o 44).toInt := tMulL rfl (by omega) (by omega)
                      have a_1529 : ((10 * (I_1508 o 44)) + (3 : Int32)).toInt = (10 * (I_1508 o 44)).toInt + (3 : Int32).toInt := tAdd (by omega) (by omega)
                      have g_1530 : (0 : Int) ≤ (I_1508 o 45).toInt ∧ (I_1508 o 45).toInt ≤ 700 := hR_1510.at0 ra 45 (by decide)
                      refine ⟨tIn (by omega) (by omega), fun I_1531 e_1532 => ?_⟩
                      have hR_1533 : RI R I_1531 := hR_1510.up ra 27 (by decide) (Or.inl rfl) e_1532 (show (0 : Int) ≤ (I_1508 o 45).toInt by omega) (show (I_1508 o 45).toInt ≤ (700 : Int) by omega)
                      have hf_1534 : Fm (fun c => c = o ∨ (o + 26 ≤ c ∧ c < o + 34)) I0 I_1531 := hf_1511.set (by first | rfl | omega | (dsimp only; omega)) e_1532
                      have t_1535 : (I_1531 o 3).toInt = (I_1508 o 3).toInt := by rw [← e_1532, q_u_ne (by omega)]
                      have t_1536 : (I_1531 o 4).toInt = (I_1508 o 4).toInt := by rw [← e_1532, q_u_ne (by omega)]
                      have t_1537 : (I_1531 o 6).toInt = (I_1508 o 6).toInt := by rw [← e_1532, q_u_ne (by omega)]
                      have t_1538 : (I_1531 o 7).toInt = (I_1508 o 7).toInt := by rw [← e_1532, q_u_ne (by omega)]
                      have t_1539 : (I_1531 o 8).toInt = (I_1508 o 8).toInt := by rw [← e_1532, q_u_ne (by omega)]
                      have t_1540 : (I_1531 o 9).toInt = (I_1508 o 9).toInt := by rw [← e_1532, q_u_ne (by omega)]
                      have t_1541 : (I_1531 o 44).toInt = (I_1508 o 44).toInt := by rw [← e_1532, q_u_ne (by omega)]
                      have t_1542 : (I_1531 o 45).toInt = (I_1508 o 45).toInt := by rw [← e_1532, q_u_ne (by omega)]
                      have t_1543 : (I_1531 o 47).toInt = (I_1508 o 47).toInt := by rw [← e_1532, q_u_ne (by omega)]
                      have t_1544 : (I_1531 o 48).toInt = (I_1508 o 48).toInt := by rw [← e_1532, q_u_ne (by omega)]
                      have k_1545 : MPo I_1531 o := k_1523.fr (by rw [← e_1532, q_u_ne (by omega)]) (by rw [← e_1532, q_u_ne (by omega)])
                      have k_1546 : MTk I_1531 o := k_1524.fr (by rw [← e_1532, q_u_ne (by omega)]) (by rw [← e_1532, q_u_ne (by omega)]) (by rw [← e_1532, q_u_ne (by omega)])
                      have w_1548 : I_1531 (o + 28) = I0 (o + 28) := by rw [← e_1532, q_u_ne (by omega)]; exact w_1525
                      have k_1549 : MTd I_1531 o := by exact MTd.p27 k_1526 e_1532 (by omega)
                      have k_1550 : ReG I_1531 o := by intro h; exact ReS.put (u_1452 (by omega)) (by omega) hm26 hm27 hm30 hm3 hm44 hm45 (by omega) (by omega) e_1509 e_1532 (by omega) (by omega)
                      have l_1551 : (5 : Int32).toInt = 5 := rfl
                      refine ⟨fun c_1552 => ?_, fun c_1552 => ?_⟩
                      · have d_1553 := iLt c_1552
                        unfold fModel_readReform_228
                        have g_1554 : (0 : Int) ≤ (I_1531 o 44).toInt ∧ (I_1531 o 44).toInt ≤ 4 := hR_1533.at0 ra 44 (by decide)
                        refine ⟨tIn (by omega) (by omega), ?_⟩
                        refine ⟨tIn (by omega) (by omega), fun I_1555 e_1556 => ?_⟩
                        have hR_1557 : RI R I_1555 := hR_1533.up ra 29 (by decide) (Or.inl rfl) e_1556 (i_lo _) (i_hi _)
                        have hf_1558 : Fm (fun c => c = o ∨ (o + 26 ≤ c ∧ c < o + 34)) I0 I_1555 := hf_1534.set (by first | rfl | omega | (dsimp only; omega)) e_1556
                        have t_1559 : (I_1555 o 3).toInt = (I_1531 o 3).toInt := by rw [← e_1556, q_u_ne (by omega)]
                        have t_1560 : (I_1555 o 4).toInt = (I_1531 o 4).toInt := by rw [← e_1556, q_u_ne (by omega)]
                        have t_1561 : (I_1555 o 6).toInt = (I_1531 o 6).toInt := by rw [← e_1556, q_u_ne (by omega)]
                        have t_1562 : (I_1555 o 7).toInt = (I_1531 o 7).toInt := by rw [← e_1556, q_u_ne (by omega)]
                        have t_1563 : (I_1555 o 8).toInt = (I_1531 o 8).toInt := by rw [← e_1556, q_u_ne (by omega)]
                        have t_1564 : (I_1555 o 9).toInt = (I_1531 o 9).toInt := by rw [← e_1556, q_u_ne (by omega)]
                        have t_1565 : (I_1555 o 44).toInt = (I_1531 o 44).toInt := by rw [← e_1556, q_u_ne (by omega)]
                        have t_1566 : (I_1555 o 45).toInt = (I_1531 o 45).toInt := by rw [← e_1556, q_u_ne (by omega)]
                        have t_1567 : (I_1555 o 47).toInt = (I_1531 o 47).toInt := by rw [← e_1556, q_u_ne (by omega)]
                        have t_1568 : (I_1555 o 48).toInt = (I_1531 o 48).toInt := by rw [← e_1556, q_u_ne (by omega)]
                        have k_1569 : MPo I_1555 o := k_1545.fr (by rw [← e_1556, q_u_ne (by omega)]) (by rw [← e_1556, q_u_ne (by omega)])
                        have k_1570 : MTk I_1555 o := k_1546.fr (by rw [← e_1556, q_u_ne (by omega)]) (by rw [← e_1556, q_u_ne (by omega)]) (by rw [← e_1556, q_u_ne (by omega)])
                        have k_1571 : MTd I_1555 o := k_1549.fr (by rw [← e_1556]; exact q_u_ne (by omega)) (by rw [← e_1556]; exact q_u_ne (by omega)) (by rw [← e_1556]; exact q_u_ne (by omega))
                        have k_1572 : ReG I_1555 o := k_1550.fr (by rw [← e_1556]; exact q_u_ne (by omega)) (by rw [← e_1556]; exact q_u_ne (by omega)) (by rw [← e_1556]; exact q_u_ne (by omega)) (by rw [← e_1556, q_u_ne (by omega)]) (by rw [← e_1556, q_u_ne (by omega)]) (by rw [← e_1556, q_u_ne (by omega)]) (by rw [← e_1556, q_u_ne (by omega)]) (by rw [← e_1556, q_u_ne (by omega)])
                        have w_1573 : I_1555 (o + 28) = I0 (o + 28) := by rw [← e_1556, q_u_ne (by omega)]; exact w_1548
                        exact (hp _ _ hR_1557 hf_1558 (by first | omega | (intro h; omega) | exact Or.inl rfl | exact Or.inr rfl) (by first | omega | (intro h; omega) | exact Or.inl rfl | exact Or.inr rfl) (by first | omega | (intro h; omega) | exact Or.inl rfl | exact Or.inr rfl) (by first | omega | (intro h; omega) | exact Or.inl rfl | exact Or.inr rfl) (by first | omega | (intro h; omega) | exact Or.inl rfl | exact Or.inr rfl) k_1571 k_1569 k_1570 k_1572)
                      · have d_1574 := iNlt c_1552
                        exfalso; omega
                    · have d_1575 := iEq c_1397
                      have i_1576 := u_1395 (by omega)
                      exact (hp _ _ hR hf (by first | omega | (intro h; omega) | exact Or.inl rfl | exact Or.inr rfl) (by first | omega | (intro h; omega) | exact Or.inl rfl | exact Or.inr rfl) (by first | omega | (intro h; omega) | exact Or.inl rfl | exact Or.inr rfl) (by first | omega | (intro h; omega) | exact Or.inl rfl | exact Or.inr rfl) (by first | omega | (intro h; omega) | exact Or.inl rfl | exact Or.inr rfl) hq4 hq5 hq6 (fun h => absurd h (by omega)))
                  · have d_1577 := iNlt c_1390
                    refine y_Model_wrong hok hw ra hz14 hz15 hR (fun I_1581 L_1582 hR_1583 fr_1584 kp_1585 u_1579 u_1580 => ⟨I_1581, L_1582, rfl, rfl, ?_⟩)
                    have hf_1586 : Fm (fun c => c = o ∨ (o + 26 ≤ c ∧ c < o + 34)) I0 I_1581 := hf.call fr_1584 (fun c hc => by first | exact hc | (dsimp only at hc ⊢; omega) | omega)
                    have t_1587 : (I_1581 o 3).toInt = (I0 o 3).toInt := by rw [kp_1585 3 rfl]
                    have g_1588 : (0 : Int) ≤ (I_1581 o 4).toInt ∧ (I_1581 o 4).toInt ≤ 5 := hR_1583.at0 ra 4 (by decide)
                    have t_1589 : (I_1581 o 6).toInt = (I0 o 6).toInt := by rw [kp_1585 6 rfl]
                    have t_1590 : (I_1581 o 7).toInt = (I0 o 7).toInt := by rw [kp_1585 7 rfl]
                    have t_1591 : (I_1581 o 8).toInt = (I0 o 8).toInt := by rw [kp_1585 8 rfl]
                    have t_1592 : (I_1581 o 9).toInt = (I0 o 9).toInt := by rw [kp_1585 9 rfl]
                    have t_1593 : (I_1581 o 44).toInt = (I0 o 44).toInt := by rw [kp_1585 44 rfl]
                    have t_1594 : (I_1581 o 45).toInt = (I0 o 45).toInt := by rw [kp_1585 45 rfl]
                    have t_1595 : (I_1581 o 47).toInt = (I0 o 47).toInt := by rw [kp_1585 47 rfl]
                    have t_1596 : (I_1581 o 48).toInt = (I0 o 48).toInt := by rw [kp_1585 48 rfl]
                    have k_1597 : ReS I_1581 o := hq3.fr (fr_1584 _ (by first | omega | (dsimp only; omega))) (fr_1584 _ (by first | omega | (dsimp only; omega))) (fr_1584 _ (by first | omega | (dsimp only; omega))) (kp_1585 3 rfl) (kp_1585 6 rfl) (kp_1585 44 rfl) (kp_1585 45 rfl)
                    have k_1598 : MTd I_1581 o := hq4.fr (fr_1584 _ (by first | omega | (dsimp only; omega))) (fr_1584 _ (by first | omega | (dsimp only; omega))) (fr_1584 _ (by first | omega | (dsimp only; omega)))
                    have k_1599 : MPo I_1581 o := hq5.fr (kp_1585 8 rfl) (kp_1585 9 rfl)
                    have k_1600 : MTk I_1581 o := hq6.fr (kp_1585 6 rfl) (kp_1585 7 rfl) (kp_1585 8 rfl)
                    have w_1601 : I_1581 (o + 28) = I0 (o + 28) := (fr_1584 (o + 28) (by first | omega | (dsimp only; omega)))
                    refine y_Model_isGood hok hw ra hR_1583 (fun r_1602 u_1603 u_1604 u_1605 => ⟨r_1602, I_1581, L_1582, rfl, rfl, ?_⟩)
                    have b_1606 : 0 ≤ r_1602.toInt ∧ r_1602.toInt ≤ 1 := u_1603.rg
                    refine ⟨fun c_1607 => ?_, fun c_1607 => ?_⟩
                    · have d_1608 := iNe c_1607
                      have i_1609 := u_1604 (by omega)
                      have tk := k_1600.1
                      refine y_Model_next hok hw ra hz16 hz17 hz18 hz19 (by first | omega | (intro h; omega) | exact Or.inl rfl | exact Or.inr rfl) hR_1583 (fun I_1619 L_1620 hR_1621 fr_1622 kp_1623 u_1611 u_1612 u_1613 u_1614 u_1615 u_1616 u_1617 u_1618 => ⟨I_1619, L_1620, rfl, rfl, ?_⟩)
                      have hf_1624 : Fm (fun c => c = o ∨ (o + 26 ≤ c ∧ c < o + 34)) I0 I_1619 := hf_1586.call fr_1622 (fun c hc => by first | exact hc | (dsimp only at hc ⊢; omega) | omega)
                      have t_1625 : (I_1619 o 3).toInt = (I_1581 o 3).toInt := by rw [kp_1623 3 rfl]
                      have t_1626 : (I_1619 o 4).toInt = (I_1581 o 4).toInt := by rw [kp_1623 4 rfl]
                      have g_1627 : (0 : Int) ≤ (I_1619 o 6).toInt ∧ (I_1619 o 6).toInt ≤ 1600 := hR_1621.at0 ra 6 (by decide)
                      have g_1628 : (0 : Int) ≤ (I_1619 o 7).toInt ∧ (I_1619 o 7).toInt ≤ 1601 := hR_1621.at0 ra 7 (by decide)
                      have g_1629 : (0 : Int) ≤ (I_1619 o 8).toInt ∧ (I_1619 o 8).toInt ≤ 6 := hR_1621.at0 ra 8 (by decide)
                      have t_1630 : (I_1619 o 44).toInt = (I_1581 o 44).toInt := by rw [kp_1623 44 rfl]
                      have t_1631 : (I_1619 o 45).toInt = (I_1581 o 45).toInt := by rw [kp_1623 45 rfl]
                      have t_1632 : (I_1619 o 47).toInt = (I_1581 o 47).toInt := by rw [kp_1623 47 rfl]
                      have t_1633 : (I_1619 o 48).toInt = (I_1581 o 48).toInt := by rw [kp_1623 48 rfl]
                      have k_1634 : MTd I_1619 o := k_1598.fr (fr_1622 _ (by first | omega | (dsimp only; omega))) (fr_1622 _ (by first | omega | (dsimp only; omega))) (fr_1622 _ (by first | omega | (dsimp only; omega)))
                      have w_1635 : I_1619 (o + 28) = I0 (o + 28) := (fr_1622 (o + 28) (by first | omega | (dsimp only; omega))).trans w_1601
                      have ms := u_1614 (by omega)
                      have k_1636 : ReS I_1619 o := by exact ReS.at k_1597 (fr_1622 _ (by first | omega | (dsimp only; omega))) (fr_1622 _ (by first | omega | (dsimp only; omega))) (fr_1622 _ (by first | omega | (dsimp only; omega))) (kp_1623 3 rfl) (by omega) (by omega) (kp_1623 44 rfl) (kp_1623 45 rfl)
                      refine fun I_1637 e_1638 => ?_
                      have hR_1639 : RI R I_1637 := hR_1621.up0 (k := 49) ra (by decide) (Or.inr hz59) e_1638 (i_lo _) (i_hi _)
                      have hf_1640 : Fm (fun c => c = o ∨ (o + 26 ≤ c ∧ c < o + 34)) I0 I_1637 := hf_1624.set (by first | rfl | omega | (dsimp only; omega)) e_1638
                      have t_1641 : (I_1637 o 3).toInt = (I_1619 o 3).toInt := by rw [← e_1638, q_u_k (by decide)]
                      have t_1642 : (I_1637 o 4).toInt = (I_1619 o 4).toInt := by rw [← e_1638, q_u_k (by decide)]
                      have t_1643 : (I_1637 o 6).toInt = (I_1619 o 6).toInt := by rw [← e_1638, q_u_k (by decide)]
                      have t_1644 : (I_1637 o 7).toInt = (I_1619 o 7).toInt := by rw [← e_1638, q_u_k (by decide)]
                      have t_1645 : (I_1637 o 8).toInt = (I_1619 o 8).toInt := by rw [← e_1638, q_u_k (by decide)]
                      have t_1646 : (I_1637 o 9).toInt = (I_1619 o 9).toInt := by rw [← e_1638, q_u_k (by decide)]
                      have t_1647 : (I_1637 o 44).toInt = (I_1619 o 44).toInt := by rw [← e_1638, q_u_k (by decide)]
                      have t_1648 : (I_1637 o 45).toInt = (I_1619 o 45).toInt := by rw [← e_1638, q_u_k (by decide)]
                      have t_1649 : (I_1637 o 47).toInt = (I_1619 o 47).toInt := by rw [← e_1638, q_u_k (by decide)]
                      have t_1650 : (I_1637 o 48).toInt = (I_1619 o 48).toInt := by rw [← e_1638, q_u_k (by decide)]
                      have k_1651 : MTd I_1637 o := k_1634.fr (by rw [← e_1638]; exact q_u_ne (by omega)) (by rw [← e_1638]; exact q_u_ne (by omega)) (by rw [← e_1638]; exact q_u_ne (by omega))
                      have k_1652 : MPo I_1637 o := u_1617.fr (by rw [← e_1638, q_u_k (by decide)]) (by rw [← e_1638, q_u_k (by decide)])
                      have k_1653 : MTk I_1637 o := u_1618.fr (by rw [← e_1638, q_u_k (by decide)]) (by rw [← e_1638, q_u_k (by decide)]) (by rw [← e_1638, q_u_k (by decide)])
                      have k_1654 : ReS I_1637 o := k_1636.fr (by rw [← e_1638]; exact q_u_ne (by omega)) (by rw [← e_1638]; exact q_u_ne (by omega)) (by rw [← e_1638]; exact q_u_ne (by omega)) (by rw [← e_1638, q_u_k (by decide)]) (by rw [← e_1638, q_u_k (by decide)]) (by rw [← e_1638, q_u_k (by decide)]) (by rw [← e_1638, q_u_k (by decide)])
                      have w_1655 : I_1637 (o + 28) = I0 (o + 28) := by rw [← e_1638, q_u_ne (by omega)]; exact w_1635
                      have g_1656 : (0 : Int) ≤ (I_1637 o 45).toInt ∧ (I_1637 o 45).toInt ≤ 700 := hR_1639.at0 ra 45 (by decide)
                      refine y_Model_e hok hw ra hz14 hz15 hz16 hz17 hz18 hz19 hz55 hz56 hz57 hz58 (by first | omega | (intro h; omega) | exact Or.inl rfl | exact Or.inr rfl) (by first | omega | (intro h; omega) | exact Or.inl rfl | exact Or.inr rfl) k_1654 k_1651 k_1652 k_1653 hR_1639 (fun I_1666 L_1667 hR_1668 fr_1669 kp_1670 u_1658 u_1659 u_1660 u_1661 u_1662 u_1663 u_1664 u_1665 => ⟨I_1666, L_1667, rfl, rfl, ?_⟩)
                      have hf_1671 : Fm (fun c => c = o ∨ (o + 26 ≤ c ∧ c < o + 34)) I0 I_1666 := hf_1640.call fr_1669 (fun c hc => by first | exact hc | (dsimp only at hc ⊢; omega) | omega)
                      have t_1672 : (I_1666 o 3).toInt = (I_1637 o 3).toInt := by rw [kp_1670 3 rfl]
                      have g_1673 : (0 : Int) ≤ (I_1666 o 4).toInt ∧ (I_1666 o 4).toInt ≤ 5 := hR_1668.at0 ra 4 (by decide)
                      have g_1674 : (0 : Int) ≤ (I_1666 o 6).toInt ∧ (I_1666 o 6).toInt ≤ 1600 := hR_1668.at0 ra 6 (by decide)
                      have g_1675 : (0 : Int) ≤ (I_1666 o 7).toInt ∧ (I_1666 o 7).toInt ≤ 1601 := hR_1668.at0 ra 7 (by decide)
                      have g_1676 : (0 : Int) ≤ (I_1666 o 8).toInt ∧ (I_1666 o 8).toInt ≤ 6 := hR_1668.at0 ra 8 (by decide)
                      have t_1677 : (I_1666 o 44).toInt = (I_1637 o 44).toInt := by rw [kp_1670 44 rfl]
                      have g_1678 : (0 : Int) ≤ (I_1666 o 45).toInt ∧ (I_1666 o 45).toInt ≤ 700 := hR_1668.at0 ra 45 (by decide)
                      have g_1679 : (0 : Int) ≤ (I_1666 o 47).toInt ∧ (I_1666 o 47).toInt ≤ 7 := hR_1668.at0 ra 47 (by decide)
                      have g_1680 : (0 : Int) ≤ (I_1666 o 48).toInt ∧ (I_1666 o 48).toInt ≤ 80 := hR_1668.at0 ra 48 (by decide)
                      have w_1681 : I_1666 (o + 28) = I0 (o + 28) := (fr_1669 (o + 28) (by first | omega | (dsimp only; omega))).trans w_1655
                      have l_1682 : (59 : Int32).toInt = 59 := rfl
                      refine y_Model_is hok hw ra hR_1668 (fun r_1683 u_1684 u_1685 u_1686 => ⟨r_1683, I_1666, L_1667, rfl, rfl, ?_⟩)
                      have b_1687 : 0 ≤ r_1683.toInt ∧ r_1683.toInt ≤ 1 := u_1684.rg
                      refine y_Model_must hok hw ra hz14 hz15 hz16 hz17 hz18 hz19 (by first | omega | (intro h; omega) | exact Or.inl rfl | exact Or.inr rfl) u_1664 u_1665 hR_1668 (fun I_1698 L_1699 hR_1700 fr_1701 kp_1702 u_1689 u_1690 u_1691 u_1692 u_1693 u_1694 u_1695 u_1696 u_1697 => ⟨I_1698, L_1699, rfl, rfl, ?_⟩)
                      have hf_1703 : Fm (fun c => c = o ∨ (o + 26 ≤ c ∧ c < o + 34)) I0 I_1698 := hf_1671.call fr_1701 (fun c hc => by first | exact hc | (dsimp only at hc ⊢; omega) | omega)
                      have t_1704 : (I_1698 o 3).toInt = (I_1666 o 3).toInt := by rw [kp_1702 3 rfl]
                      have g_1705 : (0 : Int) ≤ (I_1698 o 4).toInt ∧ (I_1698 o 4).toInt ≤ 5 := hR_1700.at0 ra 4 (by decide)
                      have g_1706 : (0 : Int) ≤ (I_1698 o 6).toInt ∧ (I_1698 o 6).toInt ≤ 1600 := hR_1700.at0 ra 6 (by decide)
                      have g_1707 : (0 : Int) ≤ (I_1698 o 7).toInt ∧ (I_1698 o 7).toInt ≤ 1601 := hR_1700.at0 ra 7 (by decide)
                      have g_1708 : (0 : Int) ≤ (I_1698 o 8).toInt ∧ (I_1698 o 8).toInt ≤ 6 := hR_1700.at0 ra 8 (by decide)
                      have t_1709 : (I_1698 o 44).toInt = (I_1666 o 44).toInt := by rw [kp_1702 44 rfl]
                      have t_1710 : (I_1698 o 45).toInt = (I_1666 o 45).toInt := by rw [kp_1702 45 rfl]
                      have t_1711 : (I_1698 o 47).toInt = (I_1666 o 47).toInt := by rw [kp_1702 47 rfl]
                      have t_1712 : (I_1698 o 48).toInt = (I_1666 o 48).toInt := by rw [kp_1702 48 rfl]
                      have k_1713 : MTd I_1698 o := u_1663.fr (fr_1701 _ (by first | omega | (dsimp only; omega))) (fr_1701 _ (by first | omega | (dsimp only; omega))) (fr_1701 _ (by first | omega | (dsimp only; omega)))
                      have w_1714 : I_1698 (o + 28) = I0 (o + 28) := (fr_1701 (o + 28) (by first | omega | (dsimp only; omega))).trans w_1681
                      have hm26 := fr_1701 (o + 26) (by first | omega | (dsimp only; omega))
                      have hm27 := fr_1701 (o + 27) (by first | omega | (dsimp only; omega))
                      have hm30 := fr_1701 (o + 30) (by first | omega | (dsimp only; omega))
                      have hm3 := kp_1702 3 rfl
                      have hm44 := kp_1702 44 rfl
                      have hm45 := kp_1702 45 rfl
                      have tk2 := u_1697.1
                      have g_1715 : (0 : Int) ≤ (I_1698 o 44).toInt ∧ (I_1698 o 44).toInt ≤ 4 := hR_1700.at0 ra 44 (by decide)
                      have a_1716 : (10 * (I_1698 o 44)).toInt = 10 * (I_1698 o 44).toInt := tMulL rfl (by omega) (by omega)
                      have a_1717 : ((10 * (I_1698 o 44)) + (3 : Int32)).toInt = (10 * (I_1698 o 44)).toInt + (3 : Int32).toInt := tAdd (by omega) (by omega)
                      refine ⟨tIn (by omega) (by omega), fun I_1718 e_1719 => ?_⟩
                      have hR_1720 : RI R I_1718 := hR_1700.up ra 26 (by decide) (Or.inl rfl) e_1719 (show (-1 : Int) ≤ (I_1637 o 45).toInt by omega) (show (I_1637 o 45).toInt ≤ (700 : Int) by omega)
                      have hf_1721 : Fm (fun c => c = o ∨ (o + 26 ≤ c ∧ c < o + 34)) I0 I_1718 := hf_1703.set (by first | rfl | omega | (dsimp only; omega)) e_1719
                      have t_1722 : (I_1718 o 3).toInt = (I_1698 o 3).toInt := by rw [← e_1719, q_u_ne (by omega)]
                      have t_1723 : (I_1718 o 4).toInt = (I_1698 o 4).toInt := by rw [← e_1719, q_u_ne (by omega)]
                      have t_1724 : (I_1718 o 6).toInt = (I_1698 o 6).toInt := by rw [← e_1719, q_u_ne (by omega)]
                      have t_1725 : (I_1718 o 7).toInt = (I_1698 o 7).toInt := by rw [← e_1719, q_u_ne (by omega)]
                      have t_1726 : (I_1718 o 8).toInt = (I_1698 o 8).toInt := by rw [← e_1719, q_u_ne (by omega)]
                      have t_1727 : (I_1718 o 9).toInt = (I_1698 o 9).toInt := by rw [← e_1719, q_u_ne (by omega)]
                      have t_1728 : (I_1718 o 44).toInt = (I_1698 o 44).toInt := by rw [← e_1719, q_u_ne (by omega)]
                      have t_1729 : (I_1718 o 45).toInt = (I_1698 o 45).toInt := by rw [← e_1719, q_u_ne (by omega)]
                      have t_1730 : (I_1718 o 47).toInt = (I_1698 o 47).toInt := by rw [← e_1719, q_u_ne (by omega)]
                      have t_1731 : (I_1718 o 48).toInt = (I_1698 o 48).toInt := by rw [← e_1719, q_u_ne (by omega)]
                      have k_1733 : MPo I_1718 o := u_1696.fr (by rw [← e_1719, q_u_ne (by omega)]) (by rw [← e_1719, q_u_ne (by omega)])
                      have k_1734 : MTk I_1718 o := u_1697.fr (by rw [← e_1719, q_u_ne (by omega)]) (by rw [← e_1719, q_u_ne (by omega)]) (by rw [← e_1719, q_u_ne (by omega)])
                      have w_1735 : I_1718 (o + 28) = I0 (o + 28) := by rw [← e_1719, q_u_ne (by omega)]; exact w_1714
                      have k_1736 : MTd I_1718 o := by exact MTd.p26 k_1713 e_1719 (by omega)
                      have g_1737 : (0 : Int) ≤ (I_1718 o 44).toInt ∧ (I_1718 o 44).toInt ≤ 4 := hR_1720.at0 ra 44 (by decide)
                      have a_1738 : (10 * (I_1718 o 44)).toInt = 10 * (I_1718 o 44).toInt := tMulL rfl (by omega) (by omega)
                      have a_1739 : ((10 * (I_1718 o 44)) + (3 : Int32)).toInt = (10 * (I_1718 o 44)).toInt + (3 : Int32).toInt := tAdd (by omega) (by omega)
                      have g_1740 : (0 : Int) ≤ (I_1718 o 45).toInt ∧ (I_1718 o 45).toInt ≤ 700 := hR_1720.at0 ra 45 (by decide)
                      refine ⟨tIn (by omega) (by omega), fun I_1741 e_1742 => ?_⟩
                      have hR_1743 : RI R I_1741 := hR_1720.up ra 27 (by decide) (Or.inl rfl) e_1742 (show (0 : Int) ≤ (I_1718 o 45).toInt by omega) (show (I_1718 o 45).toInt ≤ (700 : Int) by omega)
                      have hf_1744 : Fm (fun c => c = o ∨ (o + 26 ≤ c ∧ c < o + 34)) I0 I_1741 := hf_1721.set (by first | rfl | omega | (dsimp only; omega)) e_1742
                      have t_1745 : (I_1741 o 3).toInt = (I_1718 o 3).toInt := by rw [← e_1742, q_u_ne (by omega)]
                      have t_1746 : (I_1741 o 4).toInt = (I_1718 o 4).toInt := by rw [← e_1742, q_u_ne (by omega)]
                      have t_1747 : (I_1741 o 6).toInt = (I_1718 o 6).toInt := by rw [← e_1742, q_u_ne (by omega)]
                      have t_1748 : (I_1741 o 7).toInt = (I_1718 o 7).toInt := by rw [← e_1742, q_u_ne (by omega)]
                      have t_1749 : (I_1741 o 8).toInt = (I_1718 o 8).toInt := by rw [← e_1742, q_u_ne (by omega)]
                      have t_1750 : (I_1741 o 9).toInt = (I_1718 o 9).toInt := by rw [← e_1742, q_u_ne (by omega)]
                      have t_1751 : (I_1741 o 44).toInt = (I_1718 o 44).toInt := by rw [← e_1742, q_u_ne (by omega)]
                      have t_1752 : (I_1741 o 45).toInt = (I_1718 o 45).toInt := by rw [← e_1742, q_u_ne (by omega)]
                      have t_1753 : (I_1741 o 47).toInt = (I_1718 o 47).toInt := by rw [← e_1742, q_u_ne (by omega)]
                      have t_1754 : (I_1741 o 48).toInt = (I_1718 o 48).toInt := by rw [← e_1742, q_u_ne (by omega)]
                      have k_1755 : MPo I_1741 o := k_1733.fr (by rw [← e_1742, q_u_ne (by omega)]) (by rw [← e_1742, q_u_ne (by omega)])
                      have k_1756 : MTk I_1741 o := k_1734.fr (by rw [← e_1742, q_u_ne (by omega)]) (by rw [← e_1742, q_u_ne (by omega)]) (by rw [← e_1742, q_u_ne (by omega)])
                      have w_1758 : I_1741 (o + 28) = I0 (o + 28) := by rw [← e_1742, q_u_ne (by omega)]; exact w_1735
                      have k_1759 : MTd I_1741 o := by exact MTd.p27 k_1736 e_1742 (by omega)
                      have k_1760 : ReG I_1741 o := by intro h; exact ReS.put (u_1662 (by omega)) (by omega) hm26 hm27 hm30 hm3 hm44 hm45 (by omega) (by omega) e_1719 e_1742 (by omega) (by omega)
                      have l_1761 : (5 : Int32).toInt = 5 := rfl
                      refine ⟨fun c_1762 => ?_, fun c_1762 => ?_⟩
                      · have d_1763 := iLt c_1762
                        unfold fModel_readReform_228
                        have g_1764 : (0 : Int) ≤ (I_1741 o 44).toInt ∧ (I_1741 o 44).toInt ≤ 4 := hR_1743.at0 ra 44 (by decide)
                        refine ⟨tIn (by omega) (by omega), ?_⟩
                        refine ⟨tIn (by omega) (by omega), fun I_1765 e_1766 => ?_⟩
                        have hR_1767 : RI R I_1765 := hR_1743.up ra 29 (by decide) (Or.inl rfl) e_1766 (i_lo _) (i_hi _)
                        have hf_1768 : Fm (fun c => c = o ∨ (o + 26 ≤ c ∧ c < o + 34)) I0 I_1765 := hf_1744.set (by first | rfl | omega | (dsimp only; omega)) e_1766
                        have t_1769 : (I_1765 o 3).toInt = (I_1741 o 3).toInt := by rw [← e_1766, q_u_ne (by omega)]
                        have t_1770 : (I_1765 o 4).toInt = (I_1741 o 4).toInt := by rw [← e_1766, q_u_ne (by omega)]
                        have t_1771 : (I_1765 o 6).toInt = (I_1741 o 6).toInt := by rw [← e_1766, q_u_ne (by omega)]
                        have t_1772 : (I_1765 o 7).toInt = (I_1741 o 7).toInt := by rw [← e_1766, q_u_ne (by omega)]
                        have t_1773 : (I_1765 o 8).toInt = (I_1741 o 8).toInt := by rw [← e_1766, q_u_ne (by omega)]
                        have t_1774 : (I_1765 o 9).toInt = (I_1741 o 9).toInt := by rw [← e_1766, q_u_ne (by omega)]
                        have t_1775 : (I_1765 o 44).toInt = (I_1741 o 44).toInt := by rw [← e_1766, q_u_ne (by omega)]
                        have t_1776 : (I_1765 o 45).toInt = (I_1741 o 45).toInt := by rw [← e_1766, q_u_ne (by omega)]
                        have t_1777 : (I_1765 o 47).toInt = (I_1741 o 47).toInt := by rw [← e_1766, q_u_ne (by omega)]
                        have t_1778 : (I_1765 o 48).toInt = (I_1741 o 48).toInt := by rw [← e_1766, q_u_ne (by omega)]
                        have k_1779 : MPo I_1765 o := k_1755.fr (by rw [← e_1766, q_u_ne (by omega)]) (by rw [← e_1766, q_u_ne (by omega)])
                        have k_1780 : MTk I_1765 o := k_1756.fr (by rw [← e_1766, q_u_ne (by omega)]) (by rw [← e_1766, q_u_ne (by omega)]) (by rw [← e_1766, q_u_ne (by omega)])
                        have k_1781 : MTd I_1765 o := k_1759.fr (by rw [← e_1766]; exact q_u_ne (by omega)) (by rw [← e_1766]; exact q_u_ne (by omega)) (by rw [← e_1766]; exact q_u_ne (by omega))
                        have k_1782 : ReG I_1765 o := k_1760.fr (by rw [← e_1766]; exact q_u_ne (by omega)) (by rw [← e_1766]; exact q_u_ne (by omega)) (by rw [← e_1766]; exact q_u_ne (by omega)) (by rw [← e_1766, q_u_ne (by omega)]) (by rw [← e_1766, q_u_ne (by omega)]) (by rw [← e_1766, q_u_ne (by omega)]) (by rw [← e_1766, q_u_ne (by omega)]) (by rw [← e_1766, q_u_ne (by omega)])
                        have w_1783 : I_1765 (o + 28) = I0 (o + 28) := by rw [← e_1766, q_u_ne (by omega)]; exact w_1758
                        exact (hp _ _ hR_1767 hf_1768 (by first | omega | (intro h; omega) | exact Or.inl rfl | exact Or.inr rfl) (by first | omega | (intro h; omega) | exact Or.inl rfl | exact Or.inr rfl) (by first | omega | (intro h; omega) | exact Or.inl rfl | exact Or.inr rfl) (by first | omega | (intro h; omega) | exact Or.inl rfl | exact Or.inr rfl) (by first | omega | (intro h; omega) | exact Or.inl rfl | exact Or.inr rfl) k_1781 k_1779 k_1780 k_1782)
                      · have d_1784 := iNlt c_1762
                        exfalso; omega
                    · have d_1785 := iEq c_1607
                      have i_1786 := u_1605 (by omega)
                      exact (hp _ _ hR_1583 hf_1586 (by first | omega | (intro h; omega) | exact Or.inl rfl | exact Or.inr rfl) (by first | omega | (intro h; omega) | exact Or.inl rfl | exact Or.inr rfl) (by first | omega | (intro h; omega) | exact Or.inl rfl | exact Or.inr rfl) (by first | omega | (intro h; omega) | exact Or.inl rfl | exact Or.inr rfl) (by first | omega | (intro h; omega) | exact Or.inl rfl | exact Or.inr rfl) k_1598 k_1599 k_1600 (fun h => absurd h (by omega)))
                · have d_1787 := iNlt c_1386
                  exfalso; omega
      · have d_1788 := iNe c_30
        have i_1789 := u_28 (by omega)
        unfold fModel_readReform_95
        have l_1790 : (2 : Int32).toInt = 2 := rfl
        refine ⟨fun c_1791 => ?_, fun c_1791 => ?_⟩
        · have d_1792 := iLt c_1791
          exfalso; omega
        · have d_1793 := iNlt c_1791
          have l_1794 : (10 : Int32).toInt = 10 := rfl
          refine ⟨fun c_1795 => ?_, fun c_1795 => ?_⟩
          · have d_1796 := iEq c_1795
            exfalso; omega
          · have d_1797 := iNe c_1795
            have g_1798 : (0 : Int) ≤ (I0 o 44).toInt ∧ (I0 o 44).toInt ≤ 4 := hR.at0 ra 44 (by decide)
            have a_1799 : (10 * (I0 o 44)).toInt = 10 * (I0 o 44).toInt := tMulL rfl (by omega) (by omega)
            refine ⟨fun c_1800 => ?_, fun c_1800 => ?_⟩
            · have d_1801 := iLt c_1800
              exfalso; omega
            · have d_1802 := iNlt c_1800
              refine ⟨fun c_1803 => ?_, fun c_1803 => ?_⟩
              · have d_1804 := iLt c_1803
                unfold fModel_readReform_132
                have a_1805 : ((10 * (I0 o 44)) + (2 : Int32)).toInt = (10 * (I0 o 44)).toInt + (2 : Int32).toInt := tAdd (by omega) (by omega)
                refine ⟨tIn (by omega) (by omega), ?_⟩
                have g_1806 : (-1 : Int) ≤ (I0 (o + 26) (((10 * (I0 o 44)) + (2 : Int32)) : Int32).toNatClampNeg).toInt ∧ (I0 (o + 26) (((10 * (I0 o 44)) + (2 : Int32)) : Int32).toNatClampNeg).toInt ≤ 700 := hR.at ra 26 _ (by decide)
                refine ⟨fun c_1807 => ?_, fun c_1807 => ?_⟩
                · have d_1808 := iLt c_1807
                  refine y_Model_isGood hok hw ra hR (fun r_1809 u_1810 u_1811 u_1812 => ⟨r_1809, I0, L0, rfl, rfl, ?_⟩)
                  have b_1813 : 0 ≤ r_1809.toInt ∧ r_1809.toInt ≤ 1 := u_1810.rg
                  refine ⟨fun c_1814 => ?_, fun c_1814 => ?_⟩
                  · have d_1815 := iNe c_1814
                    have i_1816 := u_1811 (by omega)
                    have tk := hq6.1
                    refine y_Model_next hok hw ra hz16 hz17 hz18 hz19 (by first | omega | (intro h; omega) | exact Or.inl rfl | exact Or.inr rfl) hR (fun I_1826 L_1827 hR_1828 fr_1829 kp_1830 u_1818 u_1819 u_1820 u_1821 u_1822 u_1823 u_1824 u_1825 => ⟨I_1826, L_1827, rfl, rfl, ?_⟩)
                    have hf_1831 : Fm (fun c => c = o ∨ (o + 26 ≤ c ∧ c < o + 34)) I0 I_1826 := hf.call fr_1829 (fun c hc => by first | exact hc | (dsimp only at hc ⊢; omega) | omega)
                    have t_1832 : (I_1826 o 3).toInt = (I0 o 3).toInt := by rw [kp_1830 3 rfl]
                    have t_1833 : (I_1826 o 4).toInt = (I0 o 4).toInt := by rw [kp_1830 4 rfl]
                    have g_1834 : (0 : Int) ≤ (I_1826 o 6).toInt ∧ (I_1826 o 6).toInt ≤ 1600 := hR_1828.at0 ra 6 (by decide)
                    have g_1835 : (0 : Int) ≤ (I_1826 o 7).toInt ∧ (I_1826 o 7).toInt ≤ 1601 := hR_1828.at0 ra 7 (by decide)
                    have g_1836 : (0 : Int) ≤ (I_1826 o 8).toInt ∧ (I_1826 o 8).toInt ≤ 6 := hR_1828.at0 ra 8 (by decide)
                    have t_1837 : (I_1826 o 44).toInt = (I0 o 44).toInt := by rw [kp_1830 44 rfl]
                    have t_1838 : (I_1826 o 45).toInt = (I0 o 45).toInt := by rw [kp_1830 45 rfl]
                    have t_1839 : (I_1826 o 47).toInt = (I0 o 47).toInt := by rw [kp_1830 47 rfl]
                    have t_1840 : (I_1826 o 48).toInt = (I0 o 48).toInt := by rw [kp_1830 48 rfl]
                    have k_1841 : MTd I_1826 o := hq4.fr (fr_1829 _ (by first | omega | (dsimp only; omega))) (fr_1829 _ (by first | omega | (dsimp only; omega))) (fr_1829 _ (by first | omega | (dsimp only; omega)))
                    have w_1842 : I_1826 (o + 28) = I0 (o + 28) := (fr_1829 (o + 28) (by first | omega | (dsimp only; omega)))
                    have ms := u_1821 (by omega)
                    have k_1843 : ReS I_1826 o := by exact ReS.at hq3 (fr_1829 _ (by first | omega | (dsimp only; omega))) (fr_1829 _ (by first | omega | (dsimp only; omega))) (fr_1829 _ (by first | omega | (dsimp only; omega))) (kp_1830 3 rfl) (by omega) (by omega) (kp_1830 44 rfl) (kp_1830 45 rfl)
                    refine fun I_1844 e_1845 => ?_
                    have hR_1846 : RI R I_1844 := hR_1828.up0 (k := 49) ra (by decide) (Or.inr hz59) e_1845 (i_lo _) (i_hi _)
                    have hf_1847 : Fm (fun c => c = o ∨ (o + 26 ≤ c ∧ c < o + 34)) I0 I_1844 := hf_1831.set (by first | rfl | omega | (dsimp only; omega)) e_1845
                    have t_1848 : (I_1844 o 3).toInt = (I_1826 o 3).toInt := by rw [← e_1845, q_u_k (by decide)]
                    have t_1849 : (I_1844 o 4).toInt = (I_1826 o 4).toInt := by rw [← e_1845, q_u_k (by decide)]
                    have t_1850 : (I_1844 o 6).toInt = (I_1826 o 6).toInt := by rw [← e_1845, q_u_k (by decide)]
                    have t_1851 : (I_1844 o 7).toInt = (I_1826 o 7).toInt := by rw [← e_1845, q_u_k (by decide)]
                    have t_1852 : (I_1844 o 8).toInt = (I_1826 o 8).toInt := by rw [← e_1845, q_u_k (by decide)]
                    have t_1853 : (I_1844 o 9).toInt = (I_1826 o 9).toInt := by rw [← e_1845, q_u_k (by decide)]
                    have t_1854 : (I_1844 o 44).toInt = (I_1826 o 44).toInt := by rw [← e_1845, q_u_k (by decide)]
                    have t_1855 : (I_1844 o 45).toInt = (I_1826 o 45).toInt := by rw [← e_1845, q_u_k (by decide)]
                    have t_1856 : (I_1844 o 47).toInt = (I_1826 o 47).toInt := by rw [← e_1845, q_u_k (by decide)]
                    have t_1857 : (I_1844 o 48).toInt = (I_1826 o 48).toInt := by rw [← e_1845, q_u_k (by decide)]
                    have k_1858 : MTd I_1844 o := k_1841.fr (by rw [← e_1845]; exact q_u_ne (by omega)) (by rw [← e_1845]; exact q_u_ne (by omega)) (by rw [← e_1845]; exact q_u_ne (by omega))
                    have k_1859 : MPo I_1844 o := u_1824.fr (by rw [← e_1845, q_u_k (by decide)]) (by rw [← e_1845, q_u_k (by decide)])
                    have k_1860 : MTk I_1844 o := u_1825.fr (by rw [← e_1845, q_u_k (by decide)]) (by rw [← e_1845, q_u_k (by decide)]) (by rw [← e_1845, q_u_k (by decide)])
                    have k_1861 : ReS I_1844 o := k_1843.fr (by rw [← e_1845]; exact q_u_ne (by omega)) (by rw [← e_1845]; exact q_u_ne (by omega)) (by rw [← e_1845]; exact q_u_ne (by omega)) (by rw [← e_1845, q_u_k (by decide)]) (by rw [← e_1845, q_u_k (by decide)]) (by rw [← e_1845, q_u_k (by decide)]) (by rw [← e_1845, q_u_k (by decide)])
                    have w_1862 : I_1844 (o + 28) = I0 (o + 28) := by rw [← e_1845, q_u_ne (by omega)]; exact w_1842
                    have g_1863 : (0 : Int) ≤ (I_1844 o 45).toInt ∧ (I_1844 o 45).toInt ≤ 700 := hR_1846.at0 ra 45 (by decide)
                    refine y_Model_e hok hw ra hz14 hz15 hz16 hz17 hz18 hz19 hz55 hz56 hz57 hz58 (by first | omega | (intro h; omega) | exact Or.inl rfl | exact Or.inr rfl) (by first | omega | (intro h; omega) | exact Or.inl rfl | exact Or.inr rfl) k_1861 k_1858 k_1859 k_1860 hR_1846 (fun I_1873 L_1874 hR_1875 fr_1876 kp_1877 u_1865 u_1866 u_1867 u_1868 u_1869 u_1870 u_1871 u_1872 => ⟨I_1873, L_1874, rfl, rfl, ?_⟩)
                    have hf_1878 : Fm (fun c => c = o ∨ (o + 26 ≤ c ∧ c < o + 34)) I0 I_1873 := hf_1847.call fr_1876 (fun c hc => by first | exact hc | (dsimp only at hc ⊢; omega) | omega)
                    have t_1879 : (I_1873 o 3).toInt = (I_1844 o 3).toInt := by rw [kp_1877 3 rfl]
                    have g_1880 : (0 : Int) ≤ (I_1873 o 4).toInt ∧ (I_1873 o 4).toInt ≤ 5 := hR_1875.at0 ra 4 (by decide)
                    have g_1881 : (0 : Int) ≤ (I_1873 o 6).toInt ∧ (I_1873 o 6).toInt ≤ 1600 := hR_1875.at0 ra 6 (by decide)
                    have g_1882 : (0 : Int) ≤ (I_1873 o 7).toInt ∧ (I_1873 o 7).toInt ≤ 1601 := hR_1875.at0 ra 7 (by decide)
                    have g_1883 : (0 : Int) ≤ (I_1873 o 8).toInt ∧ (I_1873 o 8).toInt ≤ 6 := hR_1875.at0 ra 8 (by decide)
                    have t_1884 : (I_1873 o 44).toInt = (I_1844 o 44).toInt := by rw [kp_1877 44 rfl]
                    have g_1885 : (0 : Int) ≤ (I_1873 o 45).toInt ∧ (I_1873 o 45).toInt ≤ 700 := hR_1875.at0 ra 45 (by decide)
                    have g_1886 : (0 : Int) ≤ (I_1873 o 47).toInt ∧ (I_1873 o 47).toInt ≤ 7 := hR_1875.at0 ra 47 (by decide)
                    have g_1887 : (0 : Int) ≤ (I_1873 o 48).toInt ∧ (I_1873 o 48).toInt ≤ 80 := hR_1875.at0 ra 48 (by decide)
                    have w_1888 : I_1873 (o + 28) = I0 (o + 28) := (fr_1876 (o + 28) (by first | omega | (dsimp only; omega))).trans w_1862
                    have l_1889 : (59 : Int32).toInt = 59 := rfl
                    refine y_Model_is hok hw ra hR_1875 (fun r_1890 u_1891 u_1892 u_1893 => ⟨r_1890, I_1873, L_1874, rfl, rfl, ?_⟩)
                    have b_1894 : 0 ≤ r_1890.toInt ∧ r_1890.toInt ≤ 1 := u_1891.rg
                    refine y_Model_must hok hw ra hz14 hz15 hz16 hz17 hz18 hz19 (by first | omega | (intro h; omega) | exact Or.inl rfl | exact Or.inr rfl) u_1871 u_1872 hR_1875 (fun I_1905 L_1906 hR_1907 fr_1908 kp_1909 u_1896 u_1897 u_1898 u_1899 u_1900 u_1901 u_1902 u_1903 u_1904 => ⟨I_1905, L_1906, rfl, rfl, ?_⟩)
                    have hf_1910 : Fm (fun c => c = o ∨ (o + 26 ≤ c ∧ c < o + 34)) I0 I_1905 := hf_1878.call fr_1908 (fun c hc => by first | exact hc | (dsimp only at hc ⊢; omega) | omega)
                    have t_1911 : (I_1905 o 3).toInt = (I_1873 o 3).toInt := by rw [kp_1909 3 rfl]
                    have g_1912 : (0 : Int) ≤ (I_1905 o 4).toInt ∧ (I_1905 o 4).toInt ≤ 5 := hR_1907.at0 ra 4 (by decide)
                    have g_1913 : (0 : Int) ≤ (I_1905 o 6).toInt ∧ (I_1905 o 6).toInt ≤ 1600 := hR_1907.at0 ra 6 (by decide)
                    have g_1914 : (0 : Int) ≤ (I_1905 o 7).toInt ∧ (I_1905 o 7).toInt ≤ 1601 := hR_1907.at0 ra 7 (by decide)
                    have g_1915 : (0 : Int) ≤ (I_1905 o 8).toInt ∧ (I_1905 o 8).toInt ≤ 6 := hR_1907.at0 ra 8 (by decide)
                    have t_1916 : (I_1905 o 44).toInt = (I_1873 o 44).toInt := by rw [kp_1909 44 rfl]
                    have t_1917 : (I_1905 o 45).toInt = (I_1873 o 45).toInt := by rw [kp_1909 45 rfl]
                    have t_1918 : (I_1905 o 47).toInt = (I_1873 o 47).toInt := by rw [kp_1909 47 rfl]
                    have t_1919 : (I_1905 o 48).toInt = (I_1873 o 48).toInt := by rw [kp_1909 48 rfl]
                    have k_1920 : MTd I_1905 o := u_1870.fr (fr_1908 _ (by first | omega | (dsimp only; omega))) (fr_1908 _ (by first | omega | (dsimp only; omega))) (fr_1908 _ (by first | omega | (dsimp only; omega)))
                    have w_1921 : I_1905 (o + 28) = I0 (o + 28) := (fr_1908 (o + 28) (by first | omega | (dsimp only; omega))).trans w_1888
                    have hm26 := fr_1908 (o + 26) (by first | omega | (dsimp only; omega))
                    have hm27 := fr_1908 (o + 27) (by first | omega | (dsimp only; omega))
                    have hm30 := fr_1908 (o + 30) (by first | omega | (dsimp only; omega))
                    have hm3 := kp_1909 3 rfl
                    have hm44 := kp_1909 44 rfl
                    have hm45 := kp_1909 45 rfl
                    have tk2 := u_1904.1
                    have g_1922 : (0 : Int) ≤ (I_1905 o 44).toInt ∧ (I_1905 o 44).toInt ≤ 4 := hR_1907.at0 ra 44 (by decide)
                    have a_1923 : (10 * (I_1905 o 44)).toInt = 10 * (I_1905 o 44).toInt := tMulL rfl (by omega) (by omega)
                    have a_1924 : ((10 * (I_1905 o 44)) + (2 : Int32)).toInt = (10 * (I_1905 o 44)).toInt + (2 : Int32).toInt := tAdd (by omega) (by omega)
                    refine ⟨tIn (by omega) (by omega), fun I_1925 e_1926 => ?_⟩
                    have hR_1927 : RI R I_1925 := hR_1907.up ra 26 (by decide) (Or.inl rfl) e_1926 (show (-1 : Int) ≤ (I_1844 o 45).toInt by omega) (show (I_1844 o 45).toInt ≤ (700 : Int) by omega)
                    have hf_1928 : Fm (fun c => c = o ∨ (o + 26 ≤ c ∧ c < o + 34)) I0 I_1925 := hf_1910.set (by first | rfl | omega | (dsimp only; omega)) e_1926
                    have t_1929 : (I_1925 o 3).toInt = (I_1905 o 3).toInt := by rw [← e_1926, q_u_ne (by omega)]
                    have t_1930 : (I_1925 o 4).toInt = (I_1905 o 4).toInt := by rw [← e_1926, q_u_ne (by omega)]
                    have t_1931 : (I_1925 o 6).toInt = (I_1905 o 6).toInt := by rw [← e_1926, q_u_ne (by omega)]
                    have t_1932 : (I_1925 o 7).toInt = (I_1905 o 7).toInt := by rw [← e_1926, q_u_ne (by omega)]
                    have t_1933 : (I_1925 o 8).toInt = (I_1905 o 8).toInt := by rw [← e_1926, q_u_ne (by omega)]
                    have t_1934 : (I_1925 o 9).toInt = (I_1905 o 9).toInt := by rw [← e_1926, q_u_ne (by omega)]
                    have t_1935 : (I_1925 o 44).toInt = (I_1905 o 44).toInt := by rw [← e_1926, q_u_ne (by omega)]
                    have t_1936 : (I_1925 o 45).toInt = (I_1905 o 45).toInt := by rw [← e_1926, q_u_ne (by omega)]
                    have t_1937 : (I_1925 o 47).toInt = (I_1905 o 47).toInt := by rw [← e_1926, q_u_ne (by omega)]
                    have t_1938 : (I_1925 o 48).toInt = (I_1905 o 48).toInt := by rw [← e_1926, q_u_ne (by omega)]
                    have k_1940 : MPo I_1925 o := u_1903.fr (by rw [← e_1926, q_u_ne (by omega)]) (by rw [← e_1926, q_u_ne (by omega)])
                    have k_1941 : MTk I_1925 o := u_1904.fr (by rw [← e_1926, q_u_ne (by omega)]) (by rw [← e_1926, q_u_ne (by omega)]) (by rw [← e_1926, q_u_ne (by omega)])
                    have w_1942 : I_1925 (o + 28) = I0 (o + 28) := by rw [← e_1926, q_u_ne (by omega)]; exact w_1921
                    have k_1943 : MTd I_1925 o := by exact MTd.p26 k_1920 e_1926 (by omega)
                    have g_1944 : (0 : Int) ≤ (I_1925 o 44).toInt ∧ (I_1925 o 44).toInt ≤ 4 := hR_1927.at0 ra 44 (by decide)
                    have a_1945 : (10 * (I_1925 o 44)).toInt = 10 * (I_1925 o 44).toInt := tMulL rfl (by omega) (by omega)
                    have a_1946 : ((10 * (I_1925 o 44)) + (2 : Int32)).toInt = (10 * (I_1925 o 44)).toInt + (2 : Int32).toInt := tAdd (by omega) (by omega)
                    have g_1947 : (0 : Int) ≤ (I_1925 o 45).toInt ∧ (I_1925 o 45).toInt ≤ 700 := hR_1927.at0 ra 45 (by decide)
                    refine ⟨tIn (by omega) (by omega), fun I_1948 e_1949 => ?_⟩
                    have hR_1950 : RI R I_1948 := hR_1927.up ra 27 (by decide) (Or.inl rfl) e_1949 (show (0 : Int) ≤ (I_1925 o 45).toInt by omega) (show (I_1925 o 45).toInt ≤ (700 : Int) by omega)
                    have hf_1951 : Fm (fun c => c = o ∨ (o + 26 ≤ c ∧ c < o + 34)) I0 I_1948 := hf_1928.set (by first | rfl | omega | (dsimp only; omega)) e_1949
                    have t_1952 : (I_1948 o 3).toInt = (I_1925 o 3).toInt := by rw [← e_1949, q_u_ne (by omega)]
                    have t_1953 : (I_1948 o 4).toInt = (I_1925 o 4).toInt := by rw [← e_1949, q_u_ne (by omega)]
                    have t_1954 : (I_1948 o 6).toInt = (I_1925 o 6).toInt := by rw [← e_1949, q_u_ne (by omega)]
                    have t_1955 : (I_1948 o 7).toInt = (I_1925 o 7).toInt := by rw [← e_1949, q_u_ne (by omega)]
                    have t_1956 : (I_1948 o 8).toInt = (I_1925 o 8).toInt := by rw [← e_1949, q_u_ne (by omega)]
                    have t_1957 : (I_1948 o 9).toInt = (I_1925 o 9).toInt := by rw [← e_1949, q_u_ne (by omega)]
                    have t_1958 : (I_1948 o 44).toInt = (I_1925 o 44).toInt := by rw [← e_1949, q_u_ne (by omega)]
                    have t_1959 : (I_1948 o 45).toInt = (I_1925 o 45).toInt := by rw [← e_1949, q_u_ne (by omega)]
                    have t_1960 : (I_1948 o 47).toInt = (I_1925 o 47).toInt := by rw [← e_1949, q_u_ne (by omega)]
                    have t_1961 : (I_1948 o 48).toInt = (I_1925 o 48).toInt := by rw [← e_1949, q_u_ne (by omega)]
                    have k_1962 : MPo I_1948 o := k_1940.fr (by rw [← e_1949, q_u_ne (by omega)]) (by rw [← e_1949, q_u_ne (by omega)])
                    have k_1963 : MTk I_1948 o := k_1941.fr (by rw [← e_1949, q_u_ne (by omega)]) (by rw [← e_1949, q_u_ne (by omega)]) (by rw [← e_1949, q_u_ne (by omega)])
                    have w_1965 : I_1948 (o + 28) = I0 (o + 28) := by rw [← e_1949, q_u_ne (by omega)]; exact w_1942
                    have k_1966 : MTd I_1948 o := by exact MTd.p27 k_1943 e_1949 (by omega)
                    have k_1967 : ReG I_1948 o := by intro h; exact ReS.put (u_1869 (by omega)) (by omega) hm26 hm27 hm30 hm3 hm44 hm45 (by omega) (by omega) e_1926 e_1949 (by omega) (by omega)
                    have l_1968 : (5 : Int32).toInt = 5 := rfl
                    refine ⟨fun c_1969 => ?_, fun c_1969 => ?_⟩
                    · have d_1970 := iLt c_1969
                      unfold fModel_readReform_228
                      have g_1971 : (0 : Int) ≤ (I_1948 o 44).toInt ∧ (I_1948 o 44).toInt ≤ 4 := hR_1950.at0 ra 44 (by decide)
                      refine ⟨tIn (by omega) (by omega), ?_⟩
                      refine ⟨tIn (by omega) (by omega), fun I_1972 e_1973 => ?_⟩
                      have hR_1974 : RI R I_1972 := hR_1950.up ra 29 (by decide) (Or.inl rfl) e_1973 (i_lo _) (i_hi _)
                      have hf_1975 : Fm (fun c => c = o ∨ (o + 26 ≤ c ∧ c < o + 34)) I0 I_1972 := hf_1951.set (by first | rfl | omega | (dsimp only; omega)) e_1973
                      have t_1976 : (I_1972 o 3).toInt = (I_1948 o 3).toInt := by rw [← e_1973, q_u_ne (by omega)]
                      have t_1977 : (I_1972 o 4).toInt = (I_1948 o 4).toInt := by rw [← e_1973, q_u_ne (by omega)]
                      have t_1978 : (I_1972 o 6).toInt = (I_1948 o 6).toInt := by rw [← e_1973, q_u_ne (by omega)]
                      have t_1979 : (I_1972 o 7).toInt = (I_1948 o 7).toInt := by rw [← e_1973, q_u_ne (by omega)]
                      have t_1980 : (I_1972 o 8).toInt = (I_1948 o 8).toInt := by rw [← e_1973, q_u_ne (by omega)]
                      have t_1981 : (I_1972 o 9).toInt = (I_1948 o 9).toInt := by rw [← e_1973, q_u_ne (by omega)]
                      have t_1982 : (I_1972 o 44).toInt = (I_1948 o 44).toInt := by rw [← e_1973, q_u_ne (by omega)]
                      have t_1983 : (I_1972 o 45).toInt = (I_1948 o 45).toInt := by rw [← e_1973, q_u_ne (by omega)]
                      have t_1984 : (I_1972 o 47).toInt = (I_1948 o 47).toInt := by rw [← e_1973, q_u_ne (by omega)]
                      have t_1985 : (I_1972 o 48).toInt = (I_1948 o 48).toInt := by rw [← e_1973, q_u_ne (by omega)]
                      have k_1986 : MPo I_1972 o := k_1962.fr (by rw [← e_1973, q_u_ne (by omega)]) (by rw [← e_1973, q_u_ne (by omega)])
                      have k_1987 : MTk I_1972 o := k_1963.fr (by rw [← e_1973, q_u_ne (by omega)]) (by rw [← e_1973, q_u_ne (by omega)]) (by rw [← e_1973, q_u_ne (by omega)])
                      have k_1988 : MTd I_1972 o := k_1966.fr (by rw [← e_1973]; exact q_u_ne (by omega)) (by rw [← e_1973]; exact q_u_ne (by omega)) (by rw [← e_1973]; exact q_u_ne (by omega))
                      have k_1989 : ReG I_1972 o := k_1967.fr (by rw [← e_1973]; exact q_u_ne (by omega)) (by rw [← e_1973]; exact q_u_ne (by omega)) (by rw [← e_1973]; exact q_u_ne (by omega)) (by rw [← e_1973, q_u_ne (by omega)]) (by rw [← e_1973, q_u_ne (by omega)]) (by rw [← e_1973, q_u_ne (by omega)]) (by rw [← e_1973, q_u_ne (by omega)]) (by rw [← e_1973, q_u_ne (by omega)])
                      have w_1990 : I_1972 (o + 28) = I0 (o + 28) := by rw [← e_1973, q_u_ne (by omega)]; exact w_1965
                      exact (hp _ _ hR_1974 hf_1975 (by first | omega | (intro h; omega) | exact Or.inl rfl | exact Or.inr rfl) (by first | omega | (intro h; omega) | exact Or.inl rfl | exact Or.inr rfl) (by first | omega | (intro h; omega) | exact Or.inl rfl | exact Or.inr rfl) (by first | omega | (intro h; omega) | exact Or.inl rfl | exact Or.inr rfl) (by first | omega | (intro h; omega) | exact Or.inl rfl | exact Or.inr rfl) k_1988 k_1986 k_1987 k_1989)
                    · have d_1991 := iNlt c_1969
                      exfalso; omega
                  · have d_1992 := iEq c_1814
                    have i_1993 := u_1812 (by omega)
                    exact (hp _ _ hR hf (by first | omega | (intro h; omega) | exact Or.inl rfl | exact Or.inr rfl) (by first | omega | (intro h; omega) | exact Or.inl rfl | exact Or.inr rfl) (by first | omega | (intro h; omega) | exact Or.inl rfl | exact Or.inr rfl) (by first | omega | (intro h; omega) | exact Or.inl rfl | exact Or.inr rfl) (by first | omega | (intro h; omega) | exact Or.inl rfl | exact Or.inr rfl) hq4 hq5 hq6 (fun h => absurd h (by omega)))
                · have d_1994 := iNlt c_1807
                  refine y_Model_wrong hok hw ra hz14 hz15 hR (fun I_1998 L_1999 hR_2000 fr_2001 kp_2002 u_1996 u_1997 => ⟨I_1998, L_1999, rfl, rfl, ?_⟩)
                  have hf_2003 : Fm (fun c => c = o ∨ (o + 26 ≤ c ∧ c < o + 34)) I0 I_1998 := hf.call fr_2001 (fun c hc => by first | exact hc | (dsimp only at hc ⊢; omega) | omega)
                  have t_2004 : (I_1998 o 3).toInt = (I0 o 3).toInt := by rw [kp_2002 3 rfl]
                  have g_2005 : (0 : Int) ≤ (I_1998 o 4).toInt ∧ (I_1998 o 4).toInt ≤ 5 := hR_2000.at0 ra 4 (by decide)
                  have t_2006 : (I_1998 o 6).toInt = (I0 o 6).toInt := by rw [kp_2002 6 rfl]
                  have t_2007 : (I_1998 o 7).toInt = (I0 o 7).toInt := by rw [kp_2002 7 rfl]
                  have t_2008 : (I_1998 o 8).toInt = (I0 o 8).toInt := by rw [kp_2002 8 rfl]
                  have t_2009 : (I_1998 o 9).toInt = (I0 o 9).toInt := by rw [kp_2002 9 rfl]
                  have t_2010 : (I_1998 o 44).toInt = (I0 o 44).toInt := by rw [kp_2002 44 rfl]
                  have t_2011 : (I_1998 o 45).toInt = (I0 o 45).toInt := by rw [kp_2002 45 rfl]
                  have t_2012 : (I_1998 o 47).toInt = (I0 o 47).toInt := by rw [kp_2002 47 rfl]
                  have t_2013 : (I_1998 o 48).toInt = (I0 o 48).toInt := by rw [kp_2002 48 rfl]
                  have k_2014 : ReS I_1998 o := hq3.fr (fr_2001 _ (by first | omega | (dsimp only; omega))) (fr_2001 _ (by first | omega | (dsimp only; omega))) (fr_2001 _ (by first | omega | (dsimp only; omega))) (kp_2002 3 rfl) (kp_2002 6 rfl) (kp_2002 44 rfl) (kp_2002 45 rfl)
                  have k_2015 : MTd I_1998 o := hq4.fr (fr_2001 _ (by first | omega | (dsimp only; omega))) (fr_2001 _ (by first | omega | (dsimp only; omega))) (fr_2001 _ (by first | omega | (dsimp only; omega)))
                  have k_2016 : MPo I_1998 o := hq5.fr (kp_2002 8 rfl) (kp_2002 9 rfl)
                  have k_2017 : MTk I_1998 o := hq6.fr (kp_2002 6 rfl) (kp_2002 7 rfl) (kp_2002 8 rfl)
                  have w_2018 : I_1998 (o + 28) = I0 (o + 28) := (fr_2001 (o + 28) (by first | omega | (dsimp only; omega)))
                  refine y_Model_isGood hok hw ra hR_2000 (fun r_2019 u_2020 u_2021 u_2022 => ⟨r_2019, I_1998, L_1999, rfl, rfl, ?_⟩)
                  have b_2023 : 0 ≤ r_2019.toInt ∧ r_2019.toInt ≤ 1 := u_2020.rg
                  refine ⟨fun c_2024 => ?_, fun c_2024 => ?_⟩
                  · have d_2025 := iNe c_2024
                    have i_2026 := u_2021 (by omega)
                    have tk := k_2017.1
                    refine y_Model_next hok hw ra hz16 hz17 hz18 hz19 (by first | omega | (intro h; omega) | exact Or.inl rfl | exact Or.inr rfl) hR_2000 (fun I_2036 L_2037 hR_2038 fr_2039 kp_2040 u_2028 u_2029 u_2030 u_2031 u_2032 u_2033 u_2034 u_2035 => ⟨I_2036, L_2037, rfl, rfl, ?_⟩)
                    have hf_2041 : Fm (fun c => c = o ∨ (o + 26 ≤ c ∧ c < o + 34)) I0 I_2036 := hf_2003.call fr_2039 (fun c hc => by first | exact hc | (dsimp only at hc ⊢; omega) | omega)
                    have t_2042 : (I_2036 o 3).toInt = (I_1998 o 3).toInt := by rw [kp_2040 3 rfl]
                    have t_2043 : (I_2036 o 4).toInt = (I_1998 o 4).toInt := by rw [kp_2040 4 rfl]
                    have g_2044 : (0 : Int) ≤ (I_2036 o 6).toInt ∧ (I_2036 o 6).toInt ≤ 1600 := hR_2038.at0 ra 6 (by decide)
                    have g_2045 : (0 : Int) ≤ (I_2036 o 7).toInt ∧ (I_2036 o 7).toInt ≤ 1601 := hR_2038.at0 ra 7 (by decide)
                    have g_2046 : (0 : Int) ≤ (I_2036 o 8).toInt ∧ (I_2036 o 8).toInt ≤ 6 := hR_2038.at0 ra 8 (by decide)
                    have t_2047 : (I_2036 o 44).toInt = (I_1998 o 44).toInt := by rw [kp_2040 44 rfl]
                    have t_2048 : (I_2036 o 45).toInt = (I_1998 o 45).toInt := by rw [kp_2040 45 rfl]
                    have t_2049 : (I_2036 o 47).toInt = (I_1998 o 47).toInt := by rw [kp_2040 47 rfl]
                    have t_2050 : (I_2036 o 48).toInt = (I_1998 o 48).toInt := by rw [kp_2040 48 rfl]
                    have k_2051 : MTd I_2036 o := k_2015.fr (fr_2039 _ (by first | omega | (dsimp only; omega))) (fr_2039 _ (by first | omega | (dsimp only; omega))) (fr_2039 _ (by first | omega | (dsimp only; omega)))
                    have w_2052 : I_2036 (o + 28) = I0 (o + 28) := (fr_2039 (o + 28) (by first | omega | (dsimp only; omega))).trans w_2018
                    have ms := u_2031 (by omega)
                    have k_2053 : ReS I_2036 o := by exact ReS.at k_2014 (fr_2039 _ (by first | omega | (dsimp only; omega))) (fr_2039 _ (by first | omega | (dsimp only; omega))) (fr_2039 _ (by first | omega | (dsimp only; omega))) (kp_2040 3 rfl) (by omega) (by omega) (kp_2040 44 rfl) (kp_2040 45 rfl)
                    refine fun I_2054 e_2055 => ?_
                    have hR_2056 : RI R I_2054 := hR_2038.up0 (k := 49) ra (by decide) (Or.inr hz59) e_2055 (i_lo _) (i_hi _)
                    have hf_2057 : Fm (fun c => c = o ∨ (o + 26 ≤ c ∧ c < o + 34)) I0 I_2054 := hf_2041.set (by first | rfl | omega | (dsimp only; omega)) e_2055
                    have t_2058 : (I_2054 o 3).toInt = (I_2036 o 3).toInt := by rw [← e_2055, q_u_k (by decide)]
                    have t_2059 : (I_2054 o 4).toInt = (I_2036 o 4).toInt := by rw [← e_2055, q_u_k (by decide)]
                    have t_2060 : (I_2054 o 6).toInt = (I_2036 o 6).toInt := by rw [← e_2055, q_u_k (by decide)]
                    have t_2061 : (I_2054 o 7).toInt = (I_2036 o 7).toInt := by rw [← e_2055, q_u_k (by decide)]
                    have t_2062 : (I_2054 o 8).toInt = (I_2036 o 8).toInt := by rw [← e_2055, q_u_k (by decide)]
                    have t_2063 : (I_2054 o 9).toInt = (I_2036 o 9).toInt := by rw [← e_2055, q_u_k (by decide)]
                    have t_2064 : (I_2054 o 44).toInt = (I_2036 o 44).toInt := by rw [← e_2055, q_u_k (by decide)]
                    have t_2065 : (I_2054 o 45).toInt = (I_2036 o 45).toInt := by rw [← e_2055, q_u_k (by decide)]
                    have t_2066 : (I_2054 o 47).toInt = (I_2036 o 47).toInt := by rw [← e_2055, q_u_k (by decide)]
                    have t_2067 : (I_2054 o 48).toInt = (I_2036 o 48).toInt := by rw [← e_2055, q_u_k (by decide)]
                    have k_2068 : MTd I_2054 o := k_2051.fr (by rw [← e_2055]; exact q_u_ne (by omega)) (by rw [← e_2055]; exact q_u_ne (by omega)) (by rw [← e_2055]; exact q_u_ne (by omega))
                    have k_2069 : MPo I_2054 o := u_2034.fr (by rw [← e_2055, q_u_k (by decide)]) (by rw [← e_2055, q_u_k (by decide)])
                    have k_2070 : MTk I_2054 o := u_2035.fr (by rw [← e_2055, q_u_k (by decide)]) (by rw [← e_2055, q_u_k (by decide)]) (by rw [← e_2055, q_u_k (by decide)])
                    have k_2071 : ReS I_2054 o := k_2053.fr (by rw [← e_2055]; exact q_u_ne (by omega)) (by rw [← e_2055]; exact q_u_ne (by omega)) (by rw [← e_2055]; exact q_u_ne (by omega)) (by rw [← e_2055, q_u_k (by decide)]) (by rw [← e_2055, q_u_k (by decide)]) (by rw [← e_2055, q_u_k (by decide)]) (by rw [← e_2055, q_u_k (by decide)])
                    have w_2072 : I_2054 (o + 28) = I0 (o + 28) := by rw [← e_2055, q_u_ne (by omega)]; exact w_2052
                    have g_2073 : (0 : Int) ≤ (I_2054 o 45).toInt ∧ (I_2054 o 45).toInt ≤ 700 := hR_2056.at0 ra 45 (by decide)
                    refine y_Model_e hok hw ra hz14 hz15 hz16 hz17 hz18 hz19 hz55 hz56 hz57 hz58 (by first | omega | (intro h; omega) | exact Or.inl rfl | exact Or.inr rfl) (by first | omega | (intro h; omega) | exact Or.inl rfl | exact Or.inr rfl) k_2071 k_2068 k_2069 k_2070 hR_2056 (fun I_2083 L_2084 hR_2085 fr_2086 kp_2087 u_2075 u_2076 u_2077 u_2078 u_2079 u_2080 u_2081 u_2082 => ⟨I_2083, L_2084, rfl, rfl, ?_⟩)
                    have hf_2088 : Fm (fun c => c = o ∨ (o + 26 ≤ c ∧ c < o + 34)) I0 I_2083 := hf_2057.call fr_2086 (fun c hc => by first | exact hc | (dsimp only at hc ⊢; omega) | omega)
                    have t_2089 : (I_2083 o 3).toInt = (I_2054 o 3).toInt := by rw [kp_2087 3 rfl]
                    have g_2090 : (0 : Int) ≤ (I_2083 o 4).toInt ∧ (I_2083 o 4).toInt ≤ 5 := hR_2085.at0 ra 4 (by decide)
                    have g_2091 : (0 : Int) ≤ (I_2083 o 6).toInt ∧ (I_2083 o 6).toInt ≤ 1600 := hR_2085.at0 ra 6 (by decide)
                    have g_2092 : (0 : Int) ≤ (I_2083 o 7).toInt ∧ (I_2083 o 7).toInt ≤ 1601 := hR_2085.at0 ra 7 (by decide)
                    have g_2093 : (0 : Int) ≤ (I_2083 o 8).toInt ∧ (I_2083 o 8).toInt ≤ 6 := hR_2085.at0 ra 8 (by decide)
                    have t_2094 : (I_2083 o 44).toInt = (I_2054 o 44).toInt := by rw [kp_2087 44 rfl]
                    have g_2095 : (0 : Int) ≤ (I_2083 o 45).toInt ∧ (I_2083 o 45).toInt ≤ 700 := hR_2085.at0 ra 45 (by decide)
                    have g_2096 : (0 : Int) ≤ (I_2083 o 47).toInt ∧ (I_2083 o 47).toInt ≤ 7 := hR_2085.at0 ra 47 (by decide)
                    have g_2097 : (0 : Int) ≤ (I_2083 o 48).toInt ∧ (I_2083 o 48).toInt ≤ 80 := hR_2085.at0 ra 48 (by decide)
                    have w_2098 : I_2083 (o + 28) = I0 (o + 28) := (fr_2086 (o + 28) (by first | omega | (dsimp only; omega))).trans w_2072
                    have l_2099 : (59 : Int32).toInt = 59 := rfl
                    refine y_Model_is hok hw ra hR_2085 (fun r_2100 u_2101 u_2102 u_2103 => ⟨r_2100, I_2083, L_2084, rfl, rfl, ?_⟩)
                    have b_2104 : 0 ≤ r_2100.toInt ∧ r_2100.toInt ≤ 1 := u_2101.rg
                    refine y_Model_must hok hw ra hz14 hz15 hz16 hz17 hz18 hz19 (by first | omega | (intro h; omega) | exact Or.inl rfl | exact Or.inr rfl) u_2081 u_2082 hR_2085 (fun I_2115 L_2116 hR_2117 fr_2118 kp_2119 u_2106 u_2107 u_2108 u_2109 u_2110 u_2111 u_2112 u_2113 u_2114 => ⟨I_2115, L_2116, rfl, rfl, ?_⟩)
                    have hf_2120 : Fm (fun c => c = o ∨ (o + 26 ≤ c ∧ c < o + 34)) I0 I_2115 := hf_2088.call fr_2118 (fun c hc => by first | exact hc | (dsimp only at hc ⊢; omega) | omega)
                    have t_2121 : (I_2115 o 3).toInt = (I_2083 o 3).toInt := by rw [kp_2119 3 rfl]
                    have g_2122 : (0 : Int) ≤ (I_2115 o 4).toInt ∧ (I_2115 o 4).toInt ≤ 5 := hR_2117.at0 ra 4 (by decide)
                    have g_2123 : (0 : Int) ≤ (I_2115 o 6).toInt ∧ (I_2115 o 6).toInt ≤ 1600 := hR_2117.at0 ra 6 (by decide)
                    have g_2124 : (0 : Int) ≤ (I_2115 o 7).toInt ∧ (I_2115 o 7).toInt ≤ 1601 := hR_2117.at0 ra 7 (by decide)
                    have g_2125 : (0 : Int) ≤ (I_2115 o 8).toInt ∧ (I_2115 o 8).toInt ≤ 6 := hR_2117.at0 ra 8 (by decide)
                    have t_2126 : (I_2115 o 44).toInt = (I_2083 o 44).toInt := by rw [kp_2119 44 rfl]
                    have t_2127 : (I_2115 o 45).toInt = (I_2083 o 45).toInt := by rw [kp_2119 45 rfl]
                    have t_2128 : (I_2115 o 47).toInt = (I_2083 o 47).toInt := by rw [kp_2119 47 rfl]
                    have t_2129 : (I_2115 o 48).toInt = (I_2083 o 48).toInt := by rw [kp_2119 48 rfl]
                    have k_2130 : MTd I_2115 o := u_2080.fr (fr_2118 _ (by first | omega | (dsimp only; omega))) (fr_2118 _ (by first | omega | (dsimp only; omega))) (fr_2118 _ (by first | omega | (dsimp only; omega)))
                    have w_2131 : I_2115 (o + 28) = I0 (o + 28) := (fr_2118 (o + 28) (by first | omega | (dsimp only; omega))).trans w_2098
                    have hm26 := fr_2118 (o + 26) (by first | omega | (dsimp only; omega))
                    have hm27 := fr_2118 (o + 27) (by first | omega | (dsimp only; omega))
                    have hm30 := fr_2118 (o + 30) (by first | omega | (dsimp only; omega))
                    have hm3 := kp_2119 3 rfl
                    have hm44 := kp_2119 44 rfl
                    have hm45 := kp_2119 45 rfl
                    have tk2 := u_2114.1
                    have g_2132 : (0 : Int) ≤ (I_2115 o 44).toInt ∧ (I_2115 o 44).toInt ≤ 4 := hR_2117.at0 ra 44 (by decide)
                    have a_2133 : (10 * (I_2115 o 44)).toInt = 10 * (I_2115 o 44).toInt := tMulL rfl (by omega) (by omega)
                    have a_2134 : ((10 * (I_2115 o 44)) + (2 : Int32)).toInt = (10 * (I_2115 o 44)).toInt + (2 : Int32).toInt := tAdd (by omega) (by omega)
                    refine ⟨tIn (by omega) (by omega), fun I_2135 e_2136 => ?_⟩
                    have hR_2137 : RI R I_2135 := hR_2117.up ra 26 (by decide) (Or.inl rfl) e_2136 (show (-1 : Int) ≤ (I_2054 o 45).toInt by omega) (show (I_2054 o 45).toInt ≤ (700 : Int) by omega)
                    have hf_2138 : Fm (fun c => c = o ∨ (o + 26 ≤ c ∧ c < o + 34)) I0 I_2135 := hf_2120.set (by first | rfl | omega | (dsimp only; omega)) e_2136
                    have t_2139 : (I_2135 o 3).toInt = (I_2115 o 3).toInt := by rw [← e_2136, q_u_ne (by omega)]
                    have t_2140 : (I_2135 o 4).toInt = (I_2115 o 4).toInt := by rw [← e_2136, q_u_ne (by omega)]
                    have t_2141 : (I_2135 o 6).toInt = (I_2115 o 6).toInt := by rw [← e_2136, q_u_ne (by omega)]
                    have t_2142 : (I_2135 o 7).toInt = (I_2115 o 7).toInt := by rw [← e_2136, q_u_ne (by omega)]
                    have t_2143 : (I_2135 o 8).toInt = (I_2115 o 8).toInt := by rw [← e_2136, q_u_ne (by omega)]
                    have t_2144 : (I_2135 o 9).toInt = (I_2115 o 9).toInt := by rw [← e_2136, q_u_ne (by omega)]
                    have t_2145 : (I_2135 o 44).toInt = (I_2115 o 44).toInt := by rw [← e_2136, q_u_ne (by omega)]
                    have t_2146 : (I_2135 o 45).toInt = (I_2115 o 45).toInt := by rw [← e_2136, q_u_ne (by omega)]
                    have t_2147 : (I_2135 o 47).toInt = (I_2115 o 47).toInt := by rw [← e_2136, q_u_ne (by omega)]
                    have t_2148 : (I_2135 o 48).toInt = (I_2115 o 48).toInt := by rw [← e_2136, q_u_ne (by omega)]
                    have k_2150 : MPo I_2135 o := u_2113.fr (by rw [← e_2136, q_u_ne (by omega)]) (by rw [← e_2136, q_u_ne (by omega)])
                    have k_2151 : MTk I_2135 o := u_2114.fr (by rw [← e_2136, q_u_ne (by omega)]) (by rw [← e_2136, q_u_ne (by omega)]) (by rw [← e_2136, q_u_ne (by omega)])
                    have w_2152 : I_2135 (o + 28) = I0 (o + 28) := by rw [← e_2136, q_u_ne (by omega)]; exact w_2131
                    have k_2153 : MTd I_2135 o := by exact MTd.p26 k_2130 e_2136 (by omega)
                    have g_2154 : (0 : Int) ≤ (I_2135 o 44).toInt ∧ (I_2135 o 44).toInt ≤ 4 := hR_2137.at0 ra 44 (by decide)
                    have a_2155 : (10 * (I_2135 o 44)).toInt = 10 * (I_2135 o 44).toInt := tMulL rfl (by omega) (by omega)
                    have a_2156 : ((10 * (I_2135 o 44)) + (2 : Int32)).toInt = (10 * (I_2135 o 44)).toInt + (2 : Int32).toInt := tAdd (by omega) (by omega)
                    have g_2157 : (0 : Int) ≤ (I_2135 o 45).toInt ∧ (I_2135 o 45).toInt ≤ 700 := hR_2137.at0 ra 45 (by decide)
                    refine ⟨tIn (by omega) (by omega), fun I_2158 e_2159 => ?_⟩
                    have hR_2160 : RI R I_2158 := hR_2137.up ra 27 (by decide) (Or.inl rfl) e_2159 (show (0 : Int) ≤ (I_2135 o 45).toInt by omega) (show (I_2135 o 45).toInt ≤ (700 : Int) by omega)
                    have hf_2161 : Fm (fun c => c = o ∨ (o + 26 ≤ c ∧ c < o + 34)) I0 I_2158 := hf_2138.set (by first | rfl | omega | (dsimp only; omega)) e_2159
                    have t_2162 : (I_2158 o 3).toInt = (I_2135 o 3).toInt := by rw [← e_2159, q_u_ne (by omega)]
                    have t_2163 : (I_2158 o 4).toInt = (I_2135 o 4).toInt := by rw [← e_2159, q_u_ne (by omega)]
                    have t_2164 : (I_2158 o 6).toInt = (I_2135 o 6).toInt := by rw [← e_2159, q_u_ne (by omega)]
                    have t_2165 : (I_2158 o 7).toInt = (I_2135 o 7).toInt := by rw [← e_2159, q_u_ne (by omega)]
                    have t_2166 : (I_2158 o 8).toInt = (I_2135 o 8).toInt := by rw [← e_2159, q_u_ne (by omega)]
                    have t_2167 : (I_2158 o 9).toInt = (I_2135 o 9).toInt := by rw [← e_2159, q_u_ne (by omega)]
                    have t_2168 : (I_2158 o 44).toInt = (I_2135 o 44).toInt := by rw [← e_2159, q_u_ne (by omega)]
                    have t_2169 : (I_2158 o 45).toInt = (I_2135 o 45).toInt := by rw [← e_2159, q_u_ne (by omega)]
                    have t_2170 : (I_2158 o 47).toInt = (I_2135 o 47).toInt := by rw [← e_2159, q_u_ne (by omega)]
                    have t_2171 : (I_2158 o 48).toInt = (I_2135 o 48).toInt := by rw [← e_2159, q_u_ne (by omega)]
                    have k_2172 : MPo I_2158 o := k_2150.fr (by rw [← e_2159, q_u_ne (by omega)]) (by rw [← e_2159, q_u_ne (by omega)])
                    have k_2173 : MTk I_2158 o := k_2151.fr (by rw [← e_2159, q_u_ne (by omega)]) (by rw [← e_2159, q_u_ne (by omega)]) (by rw [← e_2159, q_u_ne (by omega)])
                    have w_2175 : I_2158 (o + 28) = I0 (o + 28) := by rw [← e_2159, q_u_ne (by omega)]; exact w_2152
                    have k_2176 : MTd I_2158 o := by exact MTd.p27 k_2153 e_2159 (by omega)
                    have k_2177 : ReG I_2158 o := by intro h; exact ReS.put (u_2079 (by omega)) (by omega) hm26 hm27 hm30 hm3 hm44 hm45 (by omega) (by omega) e_2136 e_2159 (by omega) (by omega)
                    have l_2178 : (5 : Int32).toInt = 5 := rfl
                    refine ⟨fun c_2179 => ?_, fun c_2179 => ?_⟩
                    · have d_2180 := iLt c_2179
                      unfold fModel_readReform_228
                      have g_2181 : (0 : Int) ≤ (I_2158 o 44).toInt ∧ (I_2158 o 44).toInt ≤ 4 := hR_2160.at0 ra 44 (by decide)
                      refine ⟨tIn (by omega) (by omega), ?_⟩
                      refine ⟨tIn (by omega) (by omega), fun I_2182 e_2183 => ?_⟩
                      have hR_2184 : RI R I_2182 := hR_2160.up ra 29 (by decide) (Or.inl rfl) e_2183 (i_lo _) (i_hi _)
                      have hf_2185 : Fm (fun c => c = o ∨ (o + 26 ≤ c ∧ c < o + 34)) I0 I_2182 := hf_2161.set (by first | rfl | omega | (dsimp only; omega)) e_2183
                      have t_2186 : (I_2182 o 3).toInt = (I_2158 o 3).toInt := by rw [← e_2183, q_u_ne (by omega)]
                      have t_2187 : (I_2182 o 4).toInt = (I_2158 o 4).toInt := by rw [← e_2183, q_u_ne (by omega)]
                      have t_2188 : (I_2182 o 6).toInt = (I_2158 o 6).toInt := by rw [← e_2183, q_u_ne (by omega)]
                      have t_2189 : (I_2182 o 7).toInt = (I_2158 o 7).toInt := by rw [← e_2183, q_u_ne (by omega)]
                      have t_2190 : (I_2182 o 8).toInt = (I_2158 o 8).toInt := by rw [← e_2183, q_u_ne (by omega)]
                      have t_2191 : (I_2182 o 9).toInt = (I_2158 o 9).toInt := by rw [← e_2183, q_u_ne (by omega)]
                      have t_2192 : (I_2182 o 44).toInt = (I_2158 o 44).toInt := by rw [← e_2183, q_u_ne (by omega)]
                      have t_2193 : (I_2182 o 45).toInt = (I_2158 o 45).toInt := by rw [← e_2183, q_u_ne (by omega)]
                      have t_2194 : (I_2182 o 47).toInt = (I_2158 o 47).toInt := by rw [← e_2183, q_u_ne (by omega)]
                      have t_2195 : (I_2182 o 48).toInt = (I_2158 o 48).toInt := by rw [← e_2183, q_u_ne (by omega)]
                      have k_2196 : MPo I_2182 o := k_2172.fr (by rw [← e_2183, q_u_ne (by omega)]) (by rw [← e_2183, q_u_ne (by omega)])
                      have k_2197 : MTk I_2182 o := k_2173.fr (by rw [← e_2183, q_u_ne (by omega)]) (by rw [← e_2183, q_u_ne (by omega)]) (by rw [← e_2183, q_u_ne (by omega)])
                      have k_2198 : MTd I_2182 o := k_2176.fr (by rw [← e_2183]; exact q_u_ne (by omega)) (by rw [← e_2183]; exact q_u_ne (by omega)) (by rw [← e_2183]; exact q_u_ne (by omega))
                      have k_2199 : ReG I_2182 o := k_2177.fr (by rw [← e_2183]; exact q_u_ne (by omega)) (by rw [← e_2183]; exact q_u_ne (by omega)) (by rw [← e_2183]; exact q_u_ne (by omega)) (by rw [← e_2183, q_u_ne (by omega)]) (by rw [← e_2183, q_u_ne (by omega)]) (by rw [← e_2183, q_u_ne (by omega)]) (by rw [← e_2183, q_u_ne (by omega)]) (by rw [← e_2183, q_u_ne (by omega)])
                      have w_2200 : I_2182 (o + 28) = I0 (o + 28) := by rw [← e_2183, q_u_ne (by omega)]; exact w_2175
                      exact (hp _ _ hR_2184 hf_2185 (by first | omega | (intro h; omega) | exact Or.inl rfl | exact Or.inr rfl) (by first | omega | (intro h; omega) | exact Or.inl rfl | exact Or.inr rfl) (by first | omega | (intro h; omega) | exact Or.inl rfl | exact Or.inr rfl) (by first | omega | (intro h; omega) | exact Or.inl rfl | exact Or.inr rfl) (by first | omega | (intro h; omega) | exact Or.inl rfl | exact Or.inr rfl) k_2198 k_2196 k_2197 k_2199)
                    · have d_2201 := iNlt c_2179
                      exfalso; omega
                  · have d_2202 := iEq c_2024
                    have i_2203 := u_2022 (by omega)
                    exact (hp _ _ hR_2000 hf_2003 (by first | omega | (intro h; omega) | exact Or.inl rfl | exact Or.inr rfl) (by first | omega | (intro h; omega) | exact Or.inl rfl | exact Or.inr rfl) (by first | omega | (intro h; omega) | exact Or.inl rfl | exact Or.inr rfl) (by first | omega | (intro h; omega) | exact Or.inl rfl | exact Or.inr rfl) (by first | omega | (intro h; omega) | exact Or.inl rfl | exact Or.inr rfl) k_2015 k_2016 k_2017 (fun h => absurd h (by omega)))
              · have d_2204 := iNlt c_1803
                exfalso; omega
    · have d_2205 := iNe c_23
      have i_2206 := u_21 (by omega)
      unfold fModel_readReform_95
      have l_2207 : (1 : Int32).toInt = 1 := rfl
      refine ⟨fun c_2208 => ?_, fun c_2208 => ?_⟩
      · have d_2209 := iLt c_2208
        exfalso; omega
      · have d_2210 := iNlt c_2208
        have l_2211 : (10 : Int32).toInt = 10 := rfl
        refine ⟨fun c_2212 => ?_, fun c_2212 => ?_⟩
        · have d_2213 := iEq c_2212
          exfalso; omega
        · have d_2214 := iNe c_2212
          have g_2215 : (0 : Int) ≤ (I0 o 44).toInt ∧ (I0 o 44).toInt ≤ 4 := hR.at0 ra 44 (by decide)
          have a_2216 : (10 * (I0 o 44)).toInt = 10 * (I0 o 44).toInt := tMulL rfl (by omega) (by omega)
          refine ⟨fun c_2217 => ?_, fun c_2217 => ?_⟩
          · have d_2218 := iLt c_2217
            exfalso; omega
          · have d_2219 := iNlt c_2217
            refine ⟨fun c_2220 => ?_, fun c_2220 => ?_⟩
            · have d_2221 := iLt c_2220
              unfold fModel_readReform_132
              have a_2222 : ((10 * (I0 o 44)) + (1 : Int32)).toInt = (10 * (I0 o 44)).toInt + (1 : Int32).toInt := tAdd (by omega) (by omega)
              refine ⟨tIn (by omega) (by omega), ?_⟩
              have g_2223 : (-1 : Int) ≤ (I0 (o + 26) (((10 * (I0 o 44)) + (1 : Int32)) : Int32).toNatClampNeg).toInt ∧ (I0 (o + 26) (((10 * (I0 o 44)) + (1 : Int32)) : Int32).toNatClampNeg).toInt ≤ 700 := hR.at ra 26 _ (by decide)
              refine ⟨fun c_2224 => ?_, fun c_2224 => ?_⟩
              · have d_2225 := iLt c_2224
                refine y_Model_isGood hok hw ra hR (fun r_2226 u_2227 u_2228 u_2229 => ⟨r_2226, I0, L0, rfl, rfl, ?_⟩)
                have b_2230 : 0 ≤ r_2226.toInt ∧ r_2226.toInt ≤ 1 := u_2227.rg
                refine ⟨fun c_2231 => ?_, fun c_2231 => ?_⟩
                · have d_2232 := iNe c_2231
                  have i_2233 := u_2228 (by omega)
                  have tk := hq6.1
                  refine y_Model_next hok hw ra hz16 hz17 hz18 hz19 (by first | omega | (intro h; omega) | exact Or.inl rfl | exact Or.inr rfl) hR (fun I_2243 L_2244 hR_2245 fr_2246 kp_2247 u_2235 u_2236 u_2237 u_2238 u_2239 u_2240 u_2241 u_2242 => ⟨I_2243, L_2244, rfl, rfl, ?_⟩)
                  have hf_2248 : Fm (fun c => c = o ∨ (o + 26 ≤ c ∧ c < o + 34)) I0 I_2243 := hf.call fr_2246 (fun c hc => by first | exact hc | (dsimp only at hc ⊢; omega) | omega)
                  have t_2249 : (I_2243 o 3).toInt = (I0 o 3).toInt := by rw [kp_2247 3 rfl]
                  have t_2250 : (I_2243 o 4).toInt = (I0 o 4).toInt := by rw [kp_2247 4 rfl]
                  have g_2251 : (0 : Int) ≤ (I_2243 o 6).toInt ∧ (I_2243 o 6).toInt ≤ 1600 := hR_2245.at0 ra 6 (by decide)
                  have g_2252 : (0 : Int) ≤ (I_2243 o 7).toInt ∧ (I_2243 o 7).toInt ≤ 1601 := hR_2245.at0 ra 7 (by decide)
                  have g_2253 : (0 : Int) ≤ (I_2243 o 8).toInt ∧ (I_2243 o 8).toInt ≤ 6 := hR_2245.at0 ra 8 (by decide)
                  have t_2254 : (I_2243 o 44).toInt = (I0 o 44).toInt := by rw [kp_2247 44 rfl]
                  have t_2255 : (I_2243 o 45).toInt = (I0 o 45).toInt := by rw [kp_2247 45 rfl]
                  have t_2256 : (I_2243 o 47).toInt = (I0 o 47).toInt := by rw [kp_2247 47 rfl]
                  have t_2257 : (I_2243 o 48).toInt = (I0 o 48).toInt := by rw [kp_2247 48 rfl]
                  have k_2258 : MTd I_2243 o := hq4.fr (fr_2246 _ (by first | omega | (dsimp only; omega))) (fr_2246 _ (by first | omega | (dsimp only; omega))) (fr_2246 _ (by first | omega | (dsimp only; omega)))
                  have w_2259 : I_2243 (o + 28) = I0 (o + 28) := (fr_2246 (o + 28) (by first | omega | (dsimp only; omega)))
                  have ms := u_2238 (by omega)
                  have k_2260 : ReS I_2243 o := by exact ReS.at hq3 (fr_2246 _ (by first | omega | (dsimp only; omega))) (fr_2246 _ (by first | omega | (dsimp only; omega))) (fr_2246 _ (by first | omega | (dsimp only; omega))) (kp_2247 3 rfl) (by omega) (by omega) (kp_2247 44 rfl) (kp_2247 45 rfl)
                  refine fun I_2261 e_2262 => ?_
                  have hR_2263 : RI R I_2261 := hR_2245.up0 (k := 49) ra (by decide) (Or.inr hz59) e_2262 (i_lo _) (i_hi _)
                  have hf_2264 : Fm (fun c => c = o ∨ (o + 26 ≤ c ∧ c < o + 34)) I0 I_2261 := hf_2248.set (by first | rfl | omega | (dsimp only; omega)) e_2262
                  have t_2265 : (I_2261 o 3).toInt = (I_2243 o 3).toInt := by rw [← e_2262, q_u_k (by decide)]
                  have t_2266 : (I_2261 o 4).toInt = (I_2243 o 4).toInt := by rw [← e_2262, q_u_k (by decide)]
                  have t_2267 : (I_2261 o 6).toInt = (I_2243 o 6).toInt := by rw [← e_2262, q_u_k (by decide)]
                  have t_2268 : (I_2261 o 7).toInt = (I_2243 o 7).toInt := by rw [← e_2262, q_u_k (by decide)]
                  have t_2269 : (I_2261 o 8).toInt = (I_2243 o 8).toInt := by rw [← e_2262, q_u_k (by decide)]
                  have t_2270 : (I_2261 o 9).toInt = (I_2243 o 9).toInt := by rw [← e_2262, q_u_k (by decide)]
                  have t_2271 : (I_2261 o 44).toInt = (I_2243 o 44).toInt := by rw [← e_2262, q_u_k (by decide)]
                  have t_2272 : (I_2261 o 45).toInt = (I_2243 o 45).toInt := by rw [← e_2262, q_u_k (by decide)]
                  have t_2273 : (I_2261 o 47).toInt = (I_2243 o 47).toInt := by rw [← e_2262, q_u_k (by decide)]
                  have t_2274 : (I_2261 o 48).toInt = (I_2243 o 48).toInt := by rw [← e_2262, q_u_k (by decide)]
                  have k_2275 : MTd I_2261 o := k_2258.fr (by rw [← e_2262]; exact q_u_ne (by omega)) (by rw [← e_2262]; exact q_u_ne (by omega)) (by rw [← e_2262]; exact q_u_ne (by omega))
                  have k_2276 : MPo I_2261 o := u_2241.fr (by rw [← e_2262, q_u_k (by decide)]) (by rw [← e_2262, q_u_k (by decide)])
                  have k_2277 : MTk I_2261 o := u_2242.fr (by rw [← e_2262, q_u_k (by decide)]) (by rw [← e_2262, q_u_k (by decide)]) (by rw [← e_2262, q_u_k (by decide)])
                  have k_2278 : ReS I_2261 o := k_2260.fr (by rw [← e_2262]; exact q_u_ne (by omega)) (by rw [← e_2262]; exact q_u_ne (by omega)) (by rw [← e_2262]; exact q_u_ne (by omega)) (by rw [← e_2262, q_u_k (by decide)]) (by rw [← e_2262, q_u_k (by decide)]) (by rw [← e_2262, q_u_k (by decide)]) (by rw [← e_2262, q_u_k (by decide)])
                  have w_2279 : I_2261 (o + 28) = I0 (o + 28) := by rw [← e_2262, q_u_ne (by omega)]; exact w_2259
                  have g_2280 : (0 : Int) ≤ (I_2261 o 45).toInt ∧ (I_2261 o 45).toInt ≤ 700 := hR_2263.at0 ra 45 (by decide)
                  refine y_Model_e hok hw ra hz14 hz15 hz16 hz17 hz18 hz19 hz55 hz56 hz57 hz58 (by first | omega | (intro h; omega) | exact Or.inl rfl | exact Or.inr rfl) (by first | omega | (intro h; omega) | exact Or.inl rfl | exact Or.inr rfl) k_2278 k_2275 k_2276 k_2277 hR_2263 (fun I_2290 L_2291 hR_2292 fr_2293 kp_2294 u_2282 u_2283 u_2284 u_2285 u_2286 u_2287 u_2288 u_2289 => ⟨I_2290, L_2291, rfl, rfl, ?_⟩)
                  have hf_2295 : Fm (fun c => c = o ∨ (o + 26 ≤ c ∧ c < o + 34)) I0 I_2290 := hf_2264.call fr_2293 (fun c hc => by first | exact hc | (dsimp only at hc ⊢; omega) | omega)
                  have t_2296 : (I_2290 o 3).toInt = (I_2261 o 3).toInt := by rw [kp_2294 3 rfl]
                  have g_2297 : (0 : Int) ≤ (I_2290 o 4).toInt ∧ (I_2290 o 4).toInt ≤ 5 := hR_2292.at0 ra 4 (by decide)
                  have g_2298 : (0 : Int) ≤ (I_2290 o 6).toInt ∧ (I_2290 o 6).toInt ≤ 1600 := hR_2292.at0 ra 6 (by decide)
                  have g_2299 : (0 : Int) ≤ (I_2290 o 7).toInt ∧ (I_2290 o 7).toInt ≤ 1601 := hR_2292.at0 ra 7 (by decide)
                  have g_2300 : (0 : Int) ≤ (I_2290 o 8).toInt ∧ (I_2290 o 8).toInt ≤ 6 := hR_2292.at0 ra 8 (by decide)
                  have t_2301 : (I_2290 o 44).toInt = (I_2261 o 44).toInt := by rw [kp_2294 44 rfl]
                  have g_2302 : (0 : Int) ≤ (I_2290 o 45).toInt ∧ (I_2290 o 45).toInt ≤ 700 := hR_2292.at0 ra 45 (by decide)
                  have g_2303 : (0 : Int) ≤ (I_2290 o 47).toInt ∧ (I_2290 o 47).toInt ≤ 7 := hR_2292.at0 ra 47 (by decide)
                  have g_2304 : (0 : Int) ≤ (I_2290 o 48).toInt ∧ (I_2290 o 48).toInt ≤ 80 := hR_2292.at0 ra 48 (by decide)
                  have w_2305 : I_2290 (o + 28) = I0 (o + 28) := (fr_2293 (o + 28) (by first | omega | (dsimp only; omega))).trans w_2279
                  have l_2306 : (59 : Int32).toInt = 59 := rfl
                  refine y_Model_is hok hw ra hR_2292 (fun r_2307 u_2308 u_2309 u_2310 => ⟨r_2307, I_2290, L_2291, rfl, rfl, ?_⟩)
                  have b_2311 : 0 ≤ r_2307.toInt ∧ r_2307.toInt ≤ 1 := u_2308.rg
                  refine y_Model_must hok hw ra hz14 hz15 hz16 hz17 hz18 hz19 (by first | omega | (intro h; omega) | exact Or.inl rfl | exact Or.inr rfl) u_2288 u_2289 hR_2292 (fun I_2322 L_2323 hR_2324 fr_2325 kp_2326 u_2313 u_2314 u_2315 u_2316 u_2317 u_2318 u_2319 u_2320 u_2321 => ⟨I_2322, L_2323, rfl, rfl, ?_⟩)
                  have hf_2327 : Fm (fun c => c = o ∨ (o + 26 ≤ c ∧ c < o + 34)) I0 I_2322 := hf_2295.call fr_2325 (fun c hc => by first | exact hc | (dsimp only at hc ⊢; omega) | omega)
                  have t_2328 : (I_2322 o 3).toInt = (I_2290 o 3).toInt := by rw [kp_2326 3 rfl]
                  have g_2329 : (0 : Int) ≤ (I_2322 o 4).toInt ∧ (I_2322 o 4).toInt ≤ 5 := hR_2324.at0 ra 4 (by decide)
                  have g_2330 : (0 : Int) ≤ (I_2322 o 6).toInt ∧ (I_2322 o 6).toInt ≤ 1600 := hR_2324.at0 ra 6 (by decide)
                  have g_2331 : (0 : Int) ≤ (I_2322 o 7).toInt ∧ (I_2322 o 7).toInt ≤ 1601 := hR_2324.at0 ra 7 (by decide)
                  have g_2332 : (0 : Int) ≤ (I_2322 o 8).toInt ∧ (I_2322 o 8).toInt ≤ 6 := hR_2324.at0 ra 8 (by decide)
                  have t_2333 : (I_2322 o 44).toInt = (I_2290 o 44).toInt := by rw [kp_2326 44 rfl]
                  have t_2334 : (I_2322 o 45).toInt = (I_2290 o 45).toInt := by rw [kp_2326 45 rfl]
                  have t_2335 : (I_2322 o 47).toInt = (I_2290 o 47).toInt := by rw [kp_2326 47 rfl]
                  have t_2336 : (I_2322 o 48).toInt = (I_2290 o 48).toInt := by rw [kp_2326 48 rfl]
                  have k_2337 : MTd I_2322 o := u_2287.fr (fr_2325 _ (by first | omega | (dsimp only; omega))) (fr_2325 _ (by first | omega | (dsimp only; omega))) (fr_2325 _ (by first | omega | (dsimp only; omega)))
                  have w_2338 : I_2322 (o + 28) = I0 (o + 28) := (fr_2325 (o + 28) (by first | omega | (dsimp only; omega))).trans w_2305
                  have hm26 := fr_2325 (o + 26) (by first | omega | (dsimp only; omega))
                  have hm27 := fr_2325 (o + 27) (by first | omega | (dsimp only; omega))
                  have hm30 := fr_2325 (o + 30) (by first | omega | (dsimp only; omega))
                  have hm3 := kp_2326 3 rfl
                  have hm44 := kp_2326 44 rfl
                  have hm45 := kp_2326 45 rfl
                  have tk2 := u_2321.1
                  have g_2339 : (0 : Int) ≤ (I_2322 o 44).toInt ∧ (I_2322 o 44).toInt ≤ 4 := hR_2324.at0 ra 44 (by decide)
                  have a_2340 : (10 * (I_2322 o 44)).toInt = 10 * (I_2322 o 44).toInt := tMulL rfl (by omega) (by omega)
                  have a_2341 : ((10 * (I_2322 o 44)) + (1 : Int32)).toInt = (10 * (I_2322 o 44)).toInt + (1 : Int32).toInt := tAdd (by omega) (by omega)
                  refine ⟨tIn (by omega) (by omega), fun I_2342 e_2343 => ?_⟩
                  have hR_2344 : RI R I_2342 := hR_2324.up ra 26 (by decide) (Or.inl rfl) e_2343 (show (-1 : Int) ≤ (I_2261 o 45).toInt by omega) (show (I_2261 o 45).toInt ≤ (700 : Int) by omega)
                  have hf_2345 : Fm (fun c => c = o ∨ (o + 26 ≤ c ∧ c < o + 34)) I0 I_2342 := hf_2327.set (by first | rfl | omega | (dsimp only; omega)) e_2343
                  have t_2346 : (I_2342 o 3).toInt = (I_2322 o 3).toInt := by rw [← e_2343, q_u_ne (by omega)]
                  have t_2347 : (I_2342 o 4).toInt = (I_2322 o 4).toInt := by rw [← e_2343, q_u_ne (by omega)]
                  have t_2348 : (I_2342 o 6).toInt = (I_2322 o 6).toInt := by rw [← e_2343, q_u_ne (by omega)]
                  have t_2349 : (I_2342 o 7).toInt = (I_2322 o 7).toInt := by rw [← e_2343, q_u_ne (by omega)]
                  have t_2350 : (I_2342 o 8).toInt = (I_2322 o 8).toInt := by rw [← e_2343, q_u_ne (by omega)]
                  have t_2351 : (I_2342 o 9).toInt = (I_2322 o 9).toInt := by rw [← e_2343, q_u_ne (by omega)]
                  have t_2352 : (I_2342 o 44).toInt = (I_2322 o 44).toInt := by rw [← e_2343, q_u_ne (by omega)]
                  have t_2353 : (I_2342 o 45).toInt = (I_2322 o 45).toInt := by rw [← e_2343, q_u_ne (by omega)]
                  have t_2354 : (I_2342 o 47).toInt = (I_2322 o 47).toInt := by rw [← e_2343, q_u_ne (by omega)]
                  have t_2355 : (I_2342 o 48).toInt = (I_2322 o 48).toInt := by rw [← e_2343, q_u_ne (by omega)]
                  have k_2357 : MPo I_2342 o := u_2320.fr (by rw [← e_2343, q_u_ne (by omega)]) (by rw [← e_2343, q_u_ne (by omega)])
                  have k_2358 : MTk I_2342 o := u_2321.fr (by rw [← e_2343, q_u_ne (by omega)]) (by rw [← e_2343, q_u_ne (by omega)]) (by rw [← e_2343, q_u_ne (by omega)])
                  have w_2359 : I_2342 (o + 28) = I0 (o + 28) := by rw [← e_2343, q_u_ne (by omega)]; exact w_2338
                  have k_2360 : MTd I_2342 o := by exact MTd.p26 k_2337 e_2343 (by omega)
                  have g_2361 : (0 : Int) ≤ (I_2342 o 44).toInt ∧ (I_2342 o 44).toInt ≤ 4 := hR_2344.at0 ra 44 (by decide)
                  have a_2362 : (10 * (I_2342 o 44)).toInt = 10 * (I_2342 o 44).toInt := tMulL rfl (by omega) (by omega)
                  have a_2363 : ((10 * (I_2342 o 44)) + (1 : Int32)).toInt = (10 * (I_2342 o 44)).toInt + (1 : Int32).toInt := tAdd (by omega) (by omega)
                  have g_2364 : (0 : Int) ≤ (I_2342 o 45).toInt ∧ (I_2342 o 45).toInt ≤ 700 := hR_2344.at0 ra 45 (by decide)
                  refine ⟨tIn (by omega) (by omega), fun I_2365 e_2366 => ?_⟩
                  have hR_2367 : RI R I_2365 := hR_2344.up ra 27 (by decide) (Or.inl rfl) e_2366 (show (0 : Int) ≤ (I_2342 o 45).toInt by omega) (show (I_2342 o 45).toInt ≤ (700 : Int) by omega)
                  have hf_2368 : Fm (fun c => c = o ∨ (o + 26 ≤ c ∧ c < o + 34)) I0 I_2365 := hf_2345.set (by first | rfl | omega | (dsimp only; omega)) e_2366
                  have t_2369 : (I_2365 o 3).toInt = (I_2342 o 3).toInt := by rw [← e_2366, q_u_ne (by omega)]
                  have t_2370 : (I_2365 o 4).toInt = (I_2342 o 4).toInt := by rw [← e_2366, q_u_ne (by omega)]
                  have t_2371 : (I_2365 o 6).toInt = (I_2342 o 6).toInt := by rw [← e_2366, q_u_ne (by omega)]
                  have t_2372 : (I_2365 o 7).toInt = (I_2342 o 7).toInt := by rw [← e_2366, q_u_ne (by omega)]
                  have t_2373 : (I_2365 o 8).toInt = (I_2342 o 8).toInt := by rw [← e_2366, q_u_ne (by omega)]
                  have t_2374 : (I_2365 o 9).toInt = (I_2342 o 9).toInt := by rw [← e_2366, q_u_ne (by omega)]
                  have t_2375 : (I_2365 o 44).toInt = (I_2342 o 44).toInt := by rw [← e_2366, q_u_ne (by omega)]
                  have t_2376 : (I_2365 o 45).toInt = (I_2342 o 45).toInt := by rw [← e_2366, q_u_ne (by omega)]
                  have t_2377 : (I_2365 o 47).toInt = (I_2342 o 47).toInt := by rw [← e_2366, q_u_ne (by omega)]
                  have t_2378 : (I_2365 o 48).toInt = (I_2342 o 48).toInt := by rw [← e_2366, q_u_ne (by omega)]
                  have k_2379 : MPo I_2365 o := k_2357.fr (by rw [← e_2366, q_u_ne (by omega)]) (by rw [← e_2366, q_u_ne (by omega)])
                  have k_2380 : MTk I_2365 o := k_2358.fr (by rw [← e_2366, q_u_ne (by omega)]) (by rw [← e_2366, q_u_ne (by omega)]) (by rw [← e_2366, q_u_ne (by omega)])
                  have w_2382 : I_2365 (o + 28) = I0 (o + 28) := by rw [← e_2366, q_u_ne (by omega)]; exact w_2359
                  have k_2383 : MTd I_2365 o := by exact MTd.p27 k_2360 e_2366 (by omega)
                  have k_2384 : ReG I_2365 o := by intro h; exact ReS.put (u_2286 (by omega)) (by omega) hm26 hm27 hm30 hm3 hm44 hm45 (by omega) (by omega) e_2343 e_2366 (by omega) (by omega)
                  have l_2385 : (5 : Int32).toInt = 5 := rfl
                  refine ⟨fun c_2386 => ?_, fun c_2386 => ?_⟩
                  · have d_2387 := iLt c_2386
                    unfold fModel_readReform_228
                    have g_2388 : (0 : Int) ≤ (I_2365 o 44).toInt ∧ (I_2365 o 44).toInt ≤ 4 := hR_2367.at0 ra 44 (by decide)
                    refine ⟨tIn (by omega) (by omega), ?_⟩
                    refine ⟨tIn (by omega) (by omega), fun I_2389 e_2390 => ?_⟩
                    have hR_2391 : RI R I_2389 := hR_2367.up ra 29 (by decide) (Or.inl rfl) e_2390 (i_lo _) (i_hi _)
                    have hf_2392 : Fm (fun c => c = o ∨ (o + 26 ≤ c ∧ c < o + 34)) I0 I_2389 := hf_2368.set (by first | rfl | omega | (dsimp only; omega)) e_2390
                    have t_2393 : (I_2389 o 3).toInt = (I_2365 o 3).toInt := by rw [← e_2390, q_u_ne (by omega)]
                    have t_2394 : (I_2389 o 4).toInt = (I_2365 o 4).toInt := by rw [← e_2390, q_u_ne (by omega)]
                    have t_2395 : (I_2389 o 6).toInt = (I_2365 o 6).toInt := by rw [← e_2390, q_u_ne (by omega)]
                    have t_2396 : (I_2389 o 7).toInt = (I_2365 o 7).toInt := by rw [← e_2390, q_u_ne (by omega)]
                    have t_2397 : (I_2389 o 8).toInt = (I_2365 o 8).toInt := by rw [← e_2390, q_u_ne (by omega)]
                    have t_2398 : (I_2389 o 9).toInt = (I_2365 o 9).toInt := by rw [← e_2390, q_u_ne (by omega)]
                    have t_2399 : (I_2389 o 44).toInt = (I_2365 o 44).toInt := by rw [← e_2390, q_u_ne (by omega)]
                    have t_2400 : (I_2389 o 45).toInt = (I_2365 o 45).toInt := by rw [← e_2390, q_u_ne (by omega)]
                    have t_2401 : (I_2389 o 47).toInt = (I_2365 o 47).toInt := by rw [← e_2390, q_u_ne (by omega)]
                    have t_2402 : (I_2389 o 48).toInt = (I_2365 o 48).toInt := by rw [← e_2390, q_u_ne (by omega)]
                    have k_2403 : MPo I_2389 o := k_2379.fr (by rw [← e_2390, q_u_ne (by omega)]) (by rw [← e_2390, q_u_ne (by omega)])
                    have k_2404 : MTk I_2389 o := k_2380.fr (by rw [← e_2390, q_u_ne (by omega)]) (by rw [← e_2390, q_u_ne (by omega)]) (by rw [← e_2390, q_u_ne (by omega)])
                    have k_2405 : MTd I_2389 o := k_2383.fr (by rw [← e_2390]; exact q_u_ne (by omega)) (by rw [← e_2390]; exact q_u_ne (by omega)) (by rw [← e_2390]; exact q_u_ne (by omega))
                    have k_2406 : ReG I_2389 o := k_2384.fr (by rw [← e_2390]; exact q_u_ne (by omega)) (by rw [← e_2390]; exact q_u_ne (by omega)) (by rw [← e_2390]; exact q_u_ne (by omega)) (by rw [← e_2390, q_u_ne (by omega)]) (by rw [← e_2390, q_u_ne (by omega)]) (by rw [← e_2390, q_u_ne (by omega)]) (by rw [← e_2390, q_u_ne (by omega)]) (by rw [← e_2390, q_u_ne (by omega)])
                    have w_2407 : I_2389 (o + 28) = I0 (o + 28) := by rw [← e_2390, q_u_ne (by omega)]; exact w_2382
                    exact (hp _ _ hR_2391 hf_2392 (by first | omega | (intro h; omega) | exact Or.inl rfl | exact Or.inr rfl) (by first | omega | (intro h; omega) | exact Or.inl rfl | exact Or.inr rfl) (by first | omega | (intro h; omega) | exact Or.inl rfl | exact Or.inr rfl) (by first | omega | (intro h; omega) | exact Or.inl rfl | exact Or.inr rfl) (by first | omega | (intro h; omega) | exact Or.inl rfl | exact Or.inr rfl) k_2405 k_2403 k_2404 k_2406)
                  · have d_2408 := iNlt c_2386
                    exfalso; omega
                · have d_2409 := iEq c_2231
                  have i_2410 := u_2229 (by omega)
                  exact (hp _ _ hR hf (by first | omega | (intro h; omega) | exact Or.inl rfl | exact Or.inr rfl) (by first | omega | (intro h; omega) | exact Or.inl rfl | exact Or.inr rfl) (by first | omega | (intro h; omega) | exact Or.inl rfl | exact Or.inr rfl) (by first | omega | (intro h; omega) | exact Or.inl rfl | exact Or.inr rfl) (by first | omega | (intro h; omega) | exact Or.inl rfl | exact Or.inr rfl) hq4 hq5 hq6 (fun h => absurd h (by omega)))
              · have d_2411 := iNlt c_2224
                refine y_Model_wrong hok hw ra hz14 hz15 hR (fun I_2415 L_2416 hR_2417 fr_2418 kp_2419 u_2413 u_2414 => ⟨I_2415, L_2416, rfl, rfl, ?_⟩)
                have hf_2420 : Fm (fun c => c = o ∨ (o + 26 ≤ c ∧ c < o + 34)) I0 I_2415 := hf.call fr_2418 (fun c hc => by first | exact hc | (dsimp only at hc ⊢; omega) | omega)
                have t_2421 : (I_2415 o 3).toInt = (I0 o 3).toInt := by rw [kp_2419 3 rfl]
                have g_2422 : (0 : Int) ≤ (I_2415 o 4).toInt ∧ (I_2415 o 4).toInt ≤ 5 := hR_2417.at0 ra 4 (by decide)
                have t_2423 : (I_2415 o 6).toInt = (I0 o 6).toInt := by rw [kp_2419 6 rfl]
                have t_2424 : (I_2415 o 7).toInt = (I0 o 7).toInt := by rw [kp_2419 7 rfl]
                have t_2425 : (I_2415 o 8).toInt = (I0 o 8).toInt := by rw [kp_2419 8 rfl]
                have t_2426 : (I_2415 o 9).toInt = (I0 o 9).toInt := by rw [kp_2419 9 rfl]
                have t_2427 : (I_2415 o 44).toInt = (I0 o 44).toInt := by rw [kp_2419 44 rfl]
                have t_2428 : (I_2415 o 45).toInt = (I0 o 45).toInt := by rw [kp_2419 45 rfl]
                have t_2429 : (I_2415 o 47).toInt = (I0 o 47).toInt := by rw [kp_2419 47 rfl]
                have t_2430 : (I_2415 o 48).toInt = (I0 o 48).toInt := by rw [kp_2419 48 rfl]
                have k_2431 : ReS I_2415 o := hq3.fr (fr_2418 _ (by first | omega | (dsimp only; omega))) (fr_2418 _ (by first | omega | (dsimp only; omega))) (fr_2418 _ (by first | omega | (dsimp only; omega))) (kp_2419 3 rfl) (kp_2419 6 rfl) (kp_2419 44 rfl) (kp_2419 45 rfl)
                have k_2432 : MTd I_2415 o := hq4.fr (fr_2418 _ (by first | omega | (dsimp only; omega))) (fr_2418 _ (by first | omega | (dsimp only; omega))) (fr_2418 _ (by first | omega | (dsimp only; omega)))
                have k_2433 : MPo I_2415 o := hq5.fr (kp_2419 8 rfl) (kp_2419 9 rfl)
                have k_2434 : MTk I_2415 o := hq6.fr (kp_2419 6 rfl) (kp_2419 7 rfl) (kp_2419 8 rfl)
                have w_2435 : I_2415 (o + 28) = I0 (o + 28) := (fr_2418 (o + 28) (by first | omega | (dsimp only; omega)))
                refine y_Model_isGood hok hw ra hR_2417 (fun r_2436 u_2437 u_2438 u_2439 => ⟨r_2436, I_2415, L_2416, rfl, rfl, ?_⟩)
                have b_2440 : 0 ≤ r_2436.toInt ∧ r_2436.toInt ≤ 1 := u_2437.rg
                refine ⟨fun c_2441 => ?_, fun c_2441 => ?_⟩
                · have d_2442 := iNe c_2441
                  have i_2443 := u_2438 (by omega)
                  have tk := k_2434.1
                  refine y_Model_next hok hw ra hz16 hz17 hz18 hz19 (by first | omega | (intro h; omega) | exact Or.inl rfl | exact Or.inr rfl) hR_2417 (fun I_2453 L_2454 hR_2455 fr_2456 kp_2457 u_2445 u_2446 u_2447 u_2448 u_2449 u_2450 u_2451 u_2452 => ⟨I_2453, L_2454, rfl, rfl, ?_⟩)
                  have hf_2458 : Fm (fun c => c = o ∨ (o + 26 ≤ c ∧ c < o + 34)) I0 I_2453 := hf_2420.call fr_2456 (fun c hc => by first | exact hc | (dsimp only at hc ⊢; omega) | omega)
                  have t_2459 : (I_2453 o 3).toInt = (I_2415 o 3).toInt := by rw [kp_2457 3 rfl]
                  have t_2460 : (I_2453 o 4).toInt = (I_2415 o 4).toInt := by rw [kp_2457 4 rfl]
                  have g_2461 : (0 : Int) ≤ (I_2453 o 6).toInt ∧ (I_2453 o 6).toInt ≤ 1600 := hR_2455.at0 ra 6 (by decide)
                  have g_2462 : (0 : Int) ≤ (I_2453 o 7).toInt ∧ (I_2453 o 7).toInt ≤ 1601 := hR_2455.at0 ra 7 (by decide)
                  have g_2463 : (0 : Int) ≤ (I_2453 o 8).toInt ∧ (I_2453 o 8).toInt ≤ 6 := hR_2455.at0 ra 8 (by decide)
                  have t_2464 : (I_2453 o 44).toInt = (I_2415 o 44).toInt := by rw [kp_2457 44 rfl]
                  have t_2465 : (I_2453 o 45).toInt = (I_2415 o 45).toInt := by rw [kp_2457 45 rfl]
                  have t_2466 : (I_2453 o 47).toInt = (I_2415 o 47).toInt := by rw [kp_2457 47 rfl]
                  have t_2467 : (I_2453 o 48).toInt = (I_2415 o 48).toInt := by rw [kp_2457 48 rfl]
                  have k_2468 : MTd I_2453 o := k_2432.fr (fr_2456 _ (by first | omega | (dsimp only; omega))) (fr_2456 _ (by first | omega | (dsimp only; omega))) (fr_2456 _ (by first | omega | (dsimp only; omega)))
                  have w_2469 : I_2453 (o + 28) = I0 (o + 28) := (fr_2456 (o + 28) (by first | omega | (dsimp only; omega))).trans w_2435
                  have ms := u_2448 (by omega)
                  have k_2470 : ReS I_2453 o := by exact ReS.at k_2431 (fr_2456 _ (by first | omega | (dsimp only; omega))) (fr_2456 _ (by first | omega | (dsimp only; omega))) (fr_2456 _ (by first | omega | (dsimp only; omega))) (kp_2457 3 rfl) (by omega) (by omega) (kp_2457 44 rfl) (kp_2457 45 rfl)
                  refine fun I_2471 e_2472 => ?_
                  have hR_2473 : RI R I_2471 := hR_2455.up0 (k := 49) ra (by decide) (Or.inr hz59) e_2472 (i_lo _) (i_hi _)
                  have hf_2474 : Fm (fun c => c = o ∨ (o + 26 ≤ c ∧ c < o + 34)) I0 I_2471 := hf_2458.set (by first | rfl | omega | (dsimp only; omega)) e_2472
                  have t_2475 : (I_2471 o 3).toInt = (I_2453 o 3).toInt := by rw [← e_2472, q_u_k (by decide)]
                  have t_2476 : (I_2471 o 4).toInt = (I_2453 o 4).toInt := by rw [← e_2472, q_u_k (by decide)]
                  have t_2477 : (I_2471 o 6).toInt = (I_2453 o 6).toInt := by rw [← e_2472, q_u_k (by decide)]
                  have t_2478 : (I_2471 o 7).toInt = (I_2453 o 7).toInt := by rw [← e_2472, q_u_k (by decide)]
                  have t_2479 : (I_2471 o 8).toInt = (I_2453 o 8).toInt := by rw [← e_2472, q_u_k (by decide)]
                  have t_2480 : (I_2471 o 9).toInt = (I_2453 o 9).toInt := by rw [← e_2472, q_u_k (by decide)]
                  have t_2481 : (I_2471 o 44).toInt = (I_2453 o 44).toInt := by rw [← e_2472, q_u_k (by decide)]
                  have t_2482 : (I_2471 o 45).toInt = (I_2453 o 45).toInt := by rw [← e_2472, q_u_k (by decide)]
                  have t_2483 : (I_2471 o 47).toInt = (I_2453 o 47).toInt := by rw [← e_2472, q_u_k (by decide)]
                  have t_2484 : (I_2471 o 48).toInt = (I_2453 o 48).toInt := by rw [← e_2472, q_u_k (by decide)]
                  have k_2485 : MTd I_2471 o := k_2468.fr (by rw [← e_2472]; exact q_u_ne (by omega)) (by rw [← e_2472]; exact q_u_ne (by omega)) (by rw [← e_2472]; exact q_u_ne (by omega))
                  have k_2486 : MPo I_2471 o := u_2451.fr (by rw [← e_2472, q_u_k (by decide)]) (by rw [← e_2472, q_u_k (by decide)])
                  have k_2487 : MTk I_2471 o := u_2452.fr (by rw [← e_2472, q_u_k (by decide)]) (by rw [← e_2472, q_u_k (by decide)]) (by rw [← e_2472, q_u_k (by decide)])
                  have k_2488 : ReS I_2471 o := k_2470.fr (by rw [← e_2472]; exact q_u_ne (by omega)) (by rw [← e_2472]; exact q_u_ne (by omega)) (by rw [← e_2472]; exact q_u_ne (by omega)) (by rw [← e_2472, q_u_k (by decide)]) (by rw [← e_2472, q_u_k (by decide)]) (by rw [← e_2472, q_u_k (by decide)]) (by rw [← e_2472, q_u_k (by decide)])
                  have w_2489 : I_2471 (o + 28) = I0 (o + 28) := by rw [← e_2472, q_u_ne (by omega)]; exact w_2469
                  have g_2490 : (0 : Int) ≤ (I_2471 o 45).toInt ∧ (I_2471 o 45).toInt ≤ 700 := hR_2473.at0 ra 45 (by decide)
                  refine y_Model_e hok hw ra hz14 hz15 hz16 hz17 hz18 hz19 hz55 hz56 hz57 hz58 (by first | omega | (intro h; omega) | exact Or.inl rfl | exact Or.inr rfl) (by first | omega | (intro h; omega) | exact Or.inl rfl | exact Or.inr rfl) k_2488 k_2485 k_2486 k_2487 hR_2473 (fun I_2500 L_2501 hR_2502 fr_2503 kp_2504 u_2492 u_2493 u_2494 u_2495 u_2496 u_2497 u_2498 u_2499 => ⟨I_2500, L_2501, rfl, rfl, ?_⟩)
                  have hf_2505 : Fm (fun c => c = o ∨ (o + 26 ≤ c ∧ c < o + 34)) I0 I_2500 := hf_2474.call fr_2503 (fun c hc => by first | exact hc | (dsimp only at hc ⊢; omega) | omega)
                  have t_2506 : (I_2500 o 3).toInt = (I_2471 o 3).toInt := by rw [kp_2504 3 rfl]
                  have g_2507 : (0 : Int) ≤ (I_2500 o 4).toInt ∧ (I_2500 o 4).toInt ≤ 5 := hR_2502.at0 ra 4 (by decide)
                  have g_2508 : (0 : Int) ≤ (I_2500 o 6).toInt ∧ (I_2500 o 6).toInt ≤ 1600 := hR_2502.at0 ra 6 (by decide)
                  have g_2509 : (0 : Int) ≤ (I_2500 o 7).toInt ∧ (I_2500 o 7).toInt ≤ 1601 := hR_2502.at0 ra 7 (by decide)
                  have g_2510 : (0 : Int) ≤ (I_2500 o 8).toInt ∧ (I_2500 o 8).toInt ≤ 6 := hR_2502.at0 ra 8 (by decide)
                  have t_2511 : (I_2500 o 44).toInt = (I_2471 o 44).toInt := by rw [kp_2504 44 rfl]
                  have g_2512 : (0 : Int) ≤ (I_2500 o 45).toInt ∧ (I_2500 o 45).toInt ≤ 700 := hR_2502.at0 ra 45 (by decide)
                  have g_2513 : (0 : Int) ≤ (I_2500 o 47).toInt ∧ (I_2500 o 47).toInt ≤ 7 := hR_2502.at0 ra 47 (by decide)
                  have g_2514 : (0 : Int) ≤ (I_2500 o 48).toInt ∧ (I_2500 o 48).toInt ≤ 80 := hR_2502.at0 ra 48 (by decide)
                  have w_2515 : I_2500 (o + 28) = I0 (o + 28) := (fr_2503 (o + 28) (by first | omega | (dsimp only; omega))).trans w_2489
                  have l_2516 : (59 : Int32).toInt = 59 := rfl
                  refine y_Model_is hok hw ra hR_2502 (fun r_2517 u_2518 u_2519 u_2520 => ⟨r_2517, I_2500, L_2501, rfl, rfl, ?_⟩)
                  have b_2521 : 0 ≤ r_2517.toInt ∧ r_2517.toInt ≤ 1 := u_2518.rg
                  refine y_Model_must hok hw ra hz14 hz15 hz16 hz17 hz18 hz19 (by first | omega | (intro h; omega) | exact Or.inl rfl | exact Or.inr rfl) u_2498 u_2499 hR_2502 (fun I_2532 L_2533 hR_2534 fr_2535 kp_2536 u_2523 u_2524 u_2525 u_2526 u_2527 u_2528 u_2529 u_2530 u_2531 => ⟨I_2532, L_2533, rfl, rfl, ?_⟩)
                  have hf_2537 : Fm (fun c => c = o ∨ (o + 26 ≤ c ∧ c < o + 34)) I0 I_2532 := hf_2505.call fr_2535 (fun c hc => by first | exact hc | (dsimp only at hc ⊢; omega) | omega)
                  have t_2538 : (I_2532 o 3).toInt = (I_2500 o 3).toInt := by rw [kp_2536 3 rfl]
                  have g_2539 : (0 : Int) ≤ (I_2532 o 4).toInt ∧ (I_2532 o 4).toInt ≤ 5 := hR_2534.at0 ra 4 (by decide)
                  have g_2540 : (0 : Int) ≤ (I_2532 o 6).toInt ∧ (I_2532 o 6).toInt ≤ 1600 := hR_2534.at0 ra 6 (by decide)
                  have g_2541 : (0 : Int) ≤ (I_2532 o 7).toInt ∧ (I_2532 o 7).toInt ≤ 1601 := hR_2534.at0 ra 7 (by decide)
                  have g_2542 : (0 : Int) ≤ (I_2532 o 8).toInt ∧ (I_2532 o 8).toInt ≤ 6 := hR_2534.at0 ra 8 (by decide)
                  have t_2543 : (I_2532 o 44).toInt = (I_2500 o 44).toInt := by rw [kp_2536 44 rfl]
                  have t_2544 : (I_2532 o 45).toInt = (I_2500 o 45).toInt := by rw [kp_2536 45 rfl]
                  have t_2545 : (I_2532 o 47).toInt = (I_2500 o 47).toInt := by rw [kp_2536 47 rfl]
                  have t_2546 : (I_2532 o 48).toInt = (I_2500 o 48).toInt := by rw [kp_2536 48 rfl]
                  have k_2547 : MTd I_2532 o := u_2497.fr (fr_2535 _ (by first | omega | (dsimp only; omega))) (fr_2535 _ (by first | omega | (dsimp only; omega))) (fr_2535 _ (by first | omega | (dsimp only; omega)))
                  have w_2548 : I_2532 (o + 28) = I0 (o + 28) := (fr_2535 (o + 28) (by first | omega | (dsimp only; omega))).trans w_2515
                  have hm26 := fr_2535 (o + 26) (by first | omega | (dsimp only; omega))
                  have hm27 := fr_2535 (o + 27) (by first | omega | (dsimp only; omega))
                  have hm30 := fr_2535 (o + 30) (by first | omega | (dsimp only; omega))
                  have hm3 := kp_2536 3 rfl
                  have hm44 := kp_2536 44 rfl
                  have hm45 := kp_2536 45 rfl
                  have tk2 := u_2531.1
                  have g_2549 : (0 : Int) ≤ (I_2532 o 44).toInt ∧ (I_2532 o 44).toInt ≤ 4 := hR_2534.at0 ra 44 (by decide)
                  have a_2550 : (10 * (I_2532 o 44)).toInt = 10 * (I_2532 o 44).toInt := tMulL rfl (by omega) (by omega)
                  have a_2551 : ((10 * (I_2532 o 44)) + (1 : Int32)).toInt = (10 * (I_2532 o 44)).toInt + (1 : Int32).toInt := tAdd (by omega) (by omega)
                  refine ⟨tIn (by omega) (by omega), fun I_2552 e_2553 => ?_⟩
                  have hR_2554 : RI R I_2552 := hR_2534.up ra 26 (by decide) (Or.inl rfl) e_2553 (show (-1 : Int) ≤ (I_2471 o 45).toInt by omega) (show (I_2471 o 45).toInt ≤ (700 : Int) by omega)
                  have hf_2555 : Fm (fun c => c = o ∨ (o + 26 ≤ c ∧ c < o + 34)) I0 I_2552 := hf_2537.set (by first | rfl | omega | (dsimp only; omega)) e_2553
                  have t_2556 : (I_2552 o 3).toInt = (I_2532 o 3).toInt := by rw [← e_2553, q_u_ne (by omega)]
                  have t_2557 : (I_2552 o 4).toInt = (I_2532 o 4).toInt := by rw [← e_2553, q_u_ne (by omega)]
                  have t_2558 : (I_2552 o 6).toInt = (I_2532 o 6).toInt := by rw [← e_2553, q_u_ne (by omega)]
                  have t_2559 : (I_2552 o 7).toInt = (I_2532 o 7).toInt := by rw [← e_2553, q_u_ne (by omega)]
                  have t_2560 : (I_2552 o 8).toInt = (I_2532 o 8).toInt := by rw [← e_2553, q_u_ne (by omega)]
                  have t_2561 : (I_2552 o 9).toInt = (I_2532 o 9).toInt := by rw [← e_2553, q_u_ne (by omega)]
                  have t_2562 : (I_2552 o 44).toInt = (I_2532 o 44).toInt := by rw [← e_2553, q_u_ne (by omega)]
                  have t_2563 : (I_2552 o 45).toInt = (I_2532 o 45).toInt := by rw [← e_2553, q_u_ne (by omega)]
                  have t_2564 : (I_2552 o 47).toInt = (I_2532 o 47).toInt := by rw [← e_2553, q_u_ne (by omega)]
                  have t_2565 : (I_2552 o 48).toInt = (I_2532 o 48).toInt := by rw [← e_2553, q_u_ne (by omega)]
                  have k_2567 : MPo I_2552 o := u_2530.fr (by rw [← e_2553, q_u_ne (by omega)]) (by rw [← e_2553, q_u_ne (by omega)])
                  have k_2568 : MTk I_2552 o := u_2531.fr (by rw [← e_2553, q_u_ne (by omega)]) (by rw [← e_2553, q_u_ne (by omega)]) (by rw [← e_2553, q_u_ne (by omega)])
                  have w_2569 : I_2552 (o + 28) = I0 (o + 28) := by rw [← e_2553, q_u_ne (by omega)]; exact w_2548
                  have k_2570 : MTd I_2552 o := by exact MTd.p26 k_2547 e_2553 (by omega)
                  have g_2571 : (0 : Int) ≤ (I_2552 o 44).toInt ∧ (I_2552 o 44).toInt ≤ 4 := hR_2554.at0 ra 44 (by decide)
                  have a_2572 : (10 * (I_2552 o 44)).toInt = 10 * (I_2552 o 44).toInt := tMulL rfl (by omega) (by omega)
                  have a_2573 : ((10 * (I_2552 o 44)) + (1 : Int32)).toInt = (10 * (I_2552 o 44)).toInt + (1 : Int32).toInt := tAdd (by omega) (by omega)
                  have g_2574 : (0 : Int) ≤ (I_2552 o 45).toInt ∧ (I_2552 o 45).toInt ≤ 700 := hR_2554.at0 ra 45 (by decide)
                  refine ⟨tIn (by omega) (by omega), fun I_2575 e_2576 => ?_⟩
                  have hR_2577 : RI R I_2575 := hR_2554.up ra 27 (by decide) (Or.inl rfl) e_2576 (show (0 : Int) ≤ (I_2552 o 45).toInt by omega) (show (I_2552 o 45).toInt ≤ (700 : Int) by omega)
                  have hf_2578 : Fm (fun c => c = o ∨ (o + 26 ≤ c ∧ c < o + 34)) I0 I_2575 := hf_2555.set (by first | rfl | omega | (dsimp only; omega)) e_2576
                  have t_2579 : (I_2575 o 3).toInt = (I_2552 o 3).toInt := by rw [← e_2576, q_u_ne (by omega)]
                  have t_2580 : (I_2575 o 4).toInt = (I_2552 o 4).toInt := by rw [← e_2576, q_u_ne (by omega)]
                  have t_2581 : (I_2575 o 6).toInt = (I_2552 o 6).toInt := by rw [← e_2576, q_u_ne (by omega)]
                  have t_2582 : (I_2575 o 7).toInt = (I_2552 o 7).toInt := by rw [← e_2576, q_u_ne (by omega)]
                  have t_2583 : (I_2575 o 8).toInt = (I_2552 o 8).toInt := by rw [← e_2576, q_u_ne (by omega)]
                  have t_2584 : (I_2575 o 9).toInt = (I_2552 o 9).toInt := by rw [← e_2576, q_u_ne (by omega)]
                  have t_2585 : (I_2575 o 44).toInt = (I_2552 o 44).toInt := by rw [← e_2576, q_u_ne (by omega)]
                  have t_2586 : (I_2575 o 45).toInt = (I_2552 o 45).toInt := by rw [← e_2576, q_u_ne (by omega)]
                  have t_2587 : (I_2575 o 47).toInt = (I_2552 o 47).toInt := by rw [← e_2576, q_u_ne (by omega)]
                  have t_2588 : (I_2575 o 48).toInt = (I_2552 o 48).toInt := by rw [← e_2576, q_u_ne (by omega)]
                  have k_2589 : MPo I_2575 o := k_2567.fr (by rw [← e_2576, q_u_ne (by omega)]) (by rw [← e_2576, q_u_ne (by omega)])
                  have k_2590 : MTk I_2575 o := k_2568.fr (by rw [← e_2576, q_u_ne (by omega)]) (by rw [← e_2576, q_u_ne (by omega)]) (by rw [← e_2576, q_u_ne (by omega)])
                  have w_2592 : I_2575 (o + 28) = I0 (o + 28) := by rw [← e_2576, q_u_ne (by omega)]; exact w_2569
                  have k_2593 : MTd I_2575 o := by exact MTd.p27 k_2570 e_2576 (by omega)
                  have k_2594 : ReG I_2575 o := by intro h; exact ReS.put (u_2496 (by omega)) (by omega) hm26 hm27 hm30 hm3 hm44 hm45 (by omega) (by omega) e_2553 e_2576 (by omega) (by omega)
                  have l_2595 : (5 : Int32).toInt = 5 := rfl
                  refine ⟨fun c_2596 => ?_, fun c_2596 => ?_⟩
                  · have d_2597 := iLt c_2596
                    unfold fModel_readReform_228
                    have g_2598 : (0 : Int) ≤ (I_2575 o 44).toInt ∧ (I_2575 o 44).toInt ≤ 4 := hR_2577.at0 ra 44 (by decide)
                    refine ⟨tIn (by omega) (by omega), ?_⟩
                    refine ⟨tIn (by omega) (by omega), fun I_2599 e_2600 => ?_⟩
                    have hR_2601 : RI R I_2599 := hR_2577.up ra 29 (by decide) (Or.inl rfl) e_2600 (i_lo _) (i_hi _)
                    have hf_2602 : Fm (fun c => c = o ∨ (o + 26 ≤ c ∧ c < o + 34)) I0 I_2599 := hf_2578.set (by first | rfl | omega | (dsimp only; omega)) e_2600
                    have t_2603 : (I_2599 o 3).toInt = (I_2575 o 3).toInt := by rw [← e_2600, q_u_ne (by omega)]
                    have t_2604 : (I_2599 o 4).toInt = (I_2575 o 4).toInt := by rw [← e_2600, q_u_ne (by omega)]
                    have t_2605 : (I_2599 o 6).toInt = (I_2575 o 6).toInt := by rw [← e_2600, q_u_ne (by omega)]
                    have t_2606 : (I_2599 o 7).toInt = (I_2575 o 7).toInt := by rw [← e_2600, q_u_ne (by omega)]
                    have t_2607 : (I_2599 o 8).toInt = (I_2575 o 8).toInt := by rw [← e_2600, q_u_ne (by omega)]
                    have t_2608 : (I_2599 o 9).toInt = (I_2575 o 9).toInt := by rw [← e_2600, q_u_ne (by omega)]
                    have t_2609 : (I_2599 o 44).toInt = (I_2575 o 44).toInt := by rw [← e_2600, q_u_ne (by omega)]
                    have t_2610 : (I_2599 o 45).toInt = (I_2575 o 45).toInt := by rw [← e_2600, q_u_ne (by omega)]
                    have t_2611 : (I_2599 o 47).toInt = (I_2575 o 47).toInt := by rw [← e_2600, q_u_ne (by omega)]
                    have t_2612 : (I_2599 o 48).toInt = (I_2575 o 48).toInt := by rw [← e_2600, q_u_ne (by omega)]
                    have k_2613 : MPo I_2599 o := k_2589.fr (by rw [← e_2600, q_u_ne (by omega)]) (by rw [← e_2600, q_u_ne (by omega)])
                    have k_2614 : MTk I_2599 o := k_2590.fr (by rw [← e_2600, q_u_ne (by omega)]) (by rw [← e_2600, q_u_ne (by omega)]) (by rw [← e_2600, q_u_ne (by omega)])
                    have k_2615 : MTd I_2599 o := k_2593.fr (by rw [← e_2600]; exact q_u_ne (by omega)) (by rw [← e_2600]; exact q_u_ne (by omega)) (by rw [← e_2600]; exact q_u_ne (by omega))
                    have k_2616 : ReG I_2599 o := k_2594.fr (by rw [← e_2600]; exact q_u_ne (by omega)) (by rw [← e_2600]; exact q_u_ne (by omega)) (by rw [← e_2600]; exact q_u_ne (by omega)) (by rw [← e_2600, q_u_ne (by omega)]) (by rw [← e_2600, q_u_ne (by omega)]) (by rw [← e_2600, q_u_ne (by omega)]) (by rw [← e_2600, q_u_ne (by omega)]) (by rw [← e_2600, q_u_ne (by omega)])
                    have w_2617 : I_2599 (o + 28) = I0 (o + 28) := by rw [← e_2600, q_u_ne (by omega)]; exact w_2592
                    exact (hp _ _ hR_2601 hf_2602 (by first | omega | (intro h; omega) | exact Or.inl rfl | exact Or.inr rfl) (by first | omega | (intro h; omega) | exact Or.inl rfl | exact Or.inr rfl) (by first | omega | (intro h; omega) | exact Or.inl rfl | exact Or.inr rfl) (by first | omega | (intro h; omega) | exact Or.inl rfl | exact Or.inr rfl) (by first | omega | (intro h; omega) | exact Or.inl rfl | exact Or.inr rfl) k_2615 k_2613 k_2614 k_2616)
                  · have d_2618 := iNlt c_2596
                    exfalso; omega
                · have d_2619 := iEq c_2441
                  have i_2620 := u_2439 (by omega)
                  exact (hp _ _ hR_2417 hf_2420 (by first | omega | (intro h; omega) | exact Or.inl rfl | exact Or.inr rfl) (by first | omega | (intro h; omega) | exact Or.inl rfl | exact Or.inr rfl) (by first | omega | (intro h; omega) | exact Or.inl rfl | exact Or.inr rfl) (by first | omega | (intro h; omega) | exact Or.inl rfl | exact Or.inr rfl) (by first | omega | (intro h; omega) | exact Or.inl rfl | exact Or.inr rfl) k_2432 k_2433 k_2434 (fun h => absurd h (by omega)))
            · have d_2621 := iNlt c_2220
              exfalso; omega
  · have d_2622 := iNe c_16
    have i_2623 := u_13 (by omega)
    unfold fModel_readReform_95
    refine ⟨fun c_2624 => ?_, fun c_2624 => ?_⟩
    · have d_2625 := iLt c_2624
      exfalso; omega
    · have d_2626 := iNlt c_2624
      have l_2627 : (10 : Int32).toInt = 10 := rfl
      refine ⟨fun c_2628 => ?_, fun c_2628 => ?_⟩
      · have d_2629 := iEq c_2628
        exfalso; omega
      · have d_2630 := iNe c_2628
        have g_2631 : (0 : Int) ≤ (I0 o 44).toInt ∧ (I0 o 44).toInt ≤ 4 := hR.at0 ra 44 (by decide)
        have a_2632 : (10 * (I0 o 44)).toInt = 10 * (I0 o 44).toInt := tMulL rfl (by omega) (by omega)
        refine ⟨fun c_2633 => ?_, fun c_2633 => ?_⟩
        · have d_2634 := iLt c_2633
          exfalso; omega
        · have d_2635 := iNlt c_2633
          refine ⟨fun c_2636 => ?_, fun c_2636 => ?_⟩
          · have d_2637 := iLt c_2636
            unfold fModel_readReform_132
            have a_2638 : ((10 * (I0 o 44)) + (0 : Int32)).toInt = (10 * (I0 o 44)).toInt + (0 : Int32).toInt := tAdd (by omega) (by omega)
            refine ⟨tIn (by omega) (by omega), ?_⟩
            have g_2639 : (-1 : Int) ≤ (I0 (o + 26) (((10 * (I0 o 44)) + (0 : Int32)) : Int32).toNatClampNeg).toInt ∧ (I0 (o + 26) (((10 * (I0 o 44)) + (0 : Int32)) : Int32).toNatClampNeg).toInt ≤ 700 := hR.at ra 26 _ (by decide)
            refine ⟨fun c_2640 => ?_, fun c_2640 => ?_⟩
            · have d_2641 := iLt c_2640
              refine y_Model_isGood hok hw ra hR (fun r_2642 u_2643 u_2644 u_2645 => ⟨r_2642, I0, L0, rfl, rfl, ?_⟩)
              have b_2646 : 0 ≤ r_2642.toInt ∧ r_2642.toInt ≤ 1 := u_2643.rg
              refine ⟨fun c_2647 => ?_, fun c_2647 => ?_⟩
              · have d_2648 := iNe c_2647
                have i_2649 := u_2644 (by omega)
                have tk := hq6.1
                refine y_Model_next hok hw ra hz16 hz17 hz18 hz19 (by first | omega | (intro h; omega) | exact Or.inl rfl | exact Or.inr rfl) hR (fun I_2659 L_2660 hR_2661 fr_2662 kp_2663 u_2651 u_2652 u_2653 u_2654 u_2655 u_2656 u_2657 u_2658 => ⟨I_2659, L_2660, rfl, rfl, ?_⟩)
                have hf_2664 : Fm (fun c => c = o ∨ (o + 26 ≤ c ∧ c < o + 34)) I0 I_2659 := hf.call fr_2662 (fun c hc => by first | exact hc | (dsimp only at hc ⊢; omega) | omega)
                have t_2665 : (I_2659 o 3).toInt = (I0 o 3).toInt := by rw [kp_2663 3 rfl]
                have t_2666 : (I_2659 o 4).toInt = (I0 o 4).toInt := by rw [kp_2663 4 rfl]
                have g_2667 : (0 : Int) ≤ (I_2659 o 6).toInt ∧ (I_2659 o 6).toInt ≤ 1600 := hR_2661.at0 ra 6 (by decide)
                have g_2668 : (0 : Int) ≤ (I_2659 o 7).toInt ∧ (I_2659 o 7).toInt ≤ 1601 := hR_2661.at0 ra 7 (by decide)
                have g_2669 : (0 : Int) ≤ (I_2659 o 8).toInt ∧ (I_2659 o 8).toInt ≤ 6 := hR_2661.at0 ra 8 (by decide)
                have t_2670 : (I_2659 o 44).toInt = (I0 o 44).toInt := by rw [kp_2663 44 rfl]
                have t_2671 : (I_2659 o 45).toInt = (I0 o 45).toInt := by rw [kp_2663 45 rfl]
                have t_2672 : (I_2659 o 47).toInt = (I0 o 47).toInt := by rw [kp_2663 47 rfl]
                have t_2673 : (I_2659 o 48).toInt = (I0 o 48).toInt := by rw [kp_2663 48 rfl]
                have k_2674 : MTd I_2659 o := hq4.fr (fr_2662 _ (by first | omega | (dsimp only; omega))) (fr_2662 _ (by first | omega | (dsimp only; omega))) (fr_2662 _ (by first | omega | (dsimp only; omega)))
                have w_2675 : I_2659 (o + 28) = I0 (o + 28) := (fr_2662 (o + 28) (by first | omega | (dsimp only; omega)))
                have ms := u_2654 (by omega)
                have k_2676 : ReS I_2659 o := by exact ReS.at hq3 (fr_2662 _ (by first | omega | (dsimp only; omega))) (fr_2662 _ (by first | omega | (dsimp only; omega))) (fr_2662 _ (by first | omega | (dsimp only; omega))) (kp_2663 3 rfl) (by omega) (by omega) (kp_2663 44 rfl) (kp_2663 45 rfl)
                refine fun I_2677 e_2678 => ?_
                have hR_2679 : RI R I_2677 := hR_2661.up0 (k := 49) ra (by decide) (Or.inr hz59) e_2678 (i_lo _) (i_hi _)
                have hf_2680 : Fm (fun c => c = o ∨ (o + 26 ≤ c ∧ c < o + 34)) I0 I_2677 := hf_2664.set (by first | rfl | omega | (dsimp only; omega)) e_2678
                have t_2681 : (I_2677 o 3).toInt = (I_2659 o 3).toInt := by rw [← e_2678, q_u_k (by decide)]
                have t_2682 : (I_2677 o 4).toInt = (I_2659 o 4).toInt := by rw [← e_2678, q_u_k (by decide)]
                have t_2683 : (I_2677 o 6).toInt = (I_2659 o 6).toInt := by rw [← e_2678, q_u_k (by decide)]
                have t_2684 : (I_2677 o 7).toInt = (I_2659 o 7).toInt := by rw [← e_2678, q_u_k (by decide)]
                have t_2685 : (I_2677 o 8).toInt = (I_2659 o 8).toInt := by rw [← e_2678, q_u_k (by decide)]
                have t_2686 : (I_2677 o 9).toInt = (I_2659 o 9).toInt := by rw [← e_2678, q_u_k (by decide)]
                have t_2687 : (I_2677 o 44).toInt = (I_2659 o 44).toInt := by rw [← e_2678, q_u_k (by decide)]
                have t_2688 : (I_2677 o 45).toInt = (I_2659 o 45).toInt := by rw [← e_2678, q_u_k (by decide)]
                have t_2689 : (I_2677 o 47).toInt = (I_2659 o 47).toInt := by rw [← e_2678, q_u_k (by decide)]
                have t_2690 : (I_2677 o 48).toInt = (I_2659 o 48).toInt := by rw [← e_2678, q_u_k (by decide)]
                have k_2691 : MTd I_2677 o := k_2674.fr (by rw [← e_2678]; exact q_u_ne (by omega)) (by rw [← e_2678]; exact q_u_ne (by omega)) (by rw [← e_2678]; exact q_u_ne (by omega))
                have k_2692 : MPo I_2677 o := u_2657.fr (by rw [← e_2678, q_u_k (by decide)]) (by rw [← e_2678, q_u_k (by decide)])
                have k_2693 : MTk I_2677 o := u_2658.fr (by rw [← e_2678, q_u_k (by decide)]) (by rw [← e_2678, q_u_k (by decide)]) (by rw [← e_2678, q_u_k (by decide)])
                have k_2694 : ReS I_2677 o := k_2676.fr (by rw [← e_2678]; exact q_u_ne (by omega)) (by rw [← e_2678]; exact q_u_ne (by omega)) (by rw [← e_2678]; exact q_u_ne (by omega)) (by rw [← e_2678, q_u_k (by decide)]) (by rw [← e_2678, q_u_k (by decide)]) (by rw [← e_2678, q_u_k (by decide)]) (by rw [← e_2678, q_u_k (by decide)])
                have w_2695 : I_2677 (o + 28) = I0 (o + 28) := by rw [← e_2678, q_u_ne (by omega)]; exact w_2675
                have g_2696 : (0 : Int) ≤ (I_2677 o 45).toInt ∧ (I_2677 o 45).toInt ≤ 700 := hR_2679.at0 ra 45 (by decide)
                refine y_Model_e hok hw ra hz14 hz15 hz16 hz17 hz18 hz19 hz55 hz56 hz57 hz58 (by first | omega | (intro h; omega) | exact Or.inl rfl | exact Or.inr rfl) (by first | omega | (intro h; omega) | exact Or.inl rfl | exact Or.inr rfl) k_2694 k_2691 k_2692 k_2693 hR_2679 (fun I_2706 L_2707 hR_2708 fr_2709 kp_2710 u_2698 u_2699 u_2700 u_2701 u_2702 u_2703 u_2704 u_2705 => ⟨I_2706, L_2707, rfl, rfl, ?_⟩)
                have hf_2711 : Fm (fun c => c = o ∨ (o + 26 ≤ c ∧ c < o + 34)) I0 I_2706 := hf_2680.call fr_2709 (fun c hc => by first | exact hc | (dsimp only at hc ⊢; omega) | omega)
                have t_2712 : (I_2706 o 3).toInt = (I_2677 o 3).toInt := by rw [kp_2710 3 rfl]
                have g_2713 : (0 : Int) ≤ (I_2706 o 4).toInt ∧ (I_2706 o 4).toInt ≤ 5 := hR_2708.at0 ra 4 (by decide)
                have g_2714 : (0 : Int) ≤ (I_2706 o 6).toInt ∧ (I_2706 o 6).toInt ≤ 1600 := hR_2708.at0 ra 6 (by decide)
                have g_2715 : (0 : Int) ≤ (I_2706 o 7).toInt ∧ (I_2706 o 7).toInt ≤ 1601 := hR_2708.at0 ra 7 (by decide)
                have g_2716 : (0 : Int) ≤ (I_2706 o 8).toInt ∧ (I_2706 o 8).toInt ≤ 6 := hR_2708.at0 ra 8 (by decide)
                have t_2717 : (I_2706 o 44).toInt = (I_2677 o 44).toInt := by rw [kp_2710 44 rfl]
                have g_2718 : (0 : Int) ≤ (I_2706 o 45).toInt ∧ (I_2706 o 45).toInt ≤ 700 := hR_2708.at0 ra 45 (by decide)
                have g_2719 : (0 : Int) ≤ (I_2706 o 47).toInt ∧ (I_2706 o 47).toInt ≤ 7 := hR_2708.at0 ra 47 (by decide)
                have g_2720 : (0 : Int) ≤ (I_2706 o 48).toInt ∧ (I_2706 o 48).toInt ≤ 80 := hR_2708.at0 ra 48 (by decide)
                have w_2721 : I_2706 (o + 28) = I0 (o + 28) := (fr_2709 (o + 28) (by first | omega | (dsimp only; omega))).trans w_2695
                have l_2722 : (59 : Int32).toInt = 59 := rfl
                refine y_Model_is hok hw ra hR_2708 (fun r_2723 u_2724 u_2725 u_2726 => ⟨r_2723, I_2706, L_2707, rfl, rfl, ?_⟩)
                have b_2727 : 0 ≤ r_2723.toInt ∧ r_2723.toInt ≤ 1 := u_2724.rg
                refine y_Model_must hok hw ra hz14 hz15 hz16 hz17 hz18 hz19 (by first | omega | (intro h; omega) | exact Or.inl rfl | exact Or.inr rfl) u_2704 u_2705 hR_2708 (fun I_2738 L_2739 hR_2740 fr_2741 kp_2742 u_2729 u_2730 u_2731 u_2732 u_2733 u_2734 u_2735 u_2736 u_2737 => ⟨I_2738, L_2739, rfl, rfl, ?_⟩)
                have hf_2743 : Fm (fun c => c = o ∨ (o + 26 ≤ c ∧ c < o + 34)) I0 I_2738 := hf_2711.call fr_2741 (fun c hc => by first | exact hc | (dsimp only at hc ⊢; omega) | omega)
                have t_2744 : (I_2738 o 3).toInt = (I_2706 o 3).toInt := by rw [kp_2742 3 rfl]
                have g_2745 : (0 : Int) ≤ (I_2738 o 4).toInt ∧ (I_2738 o 4).toInt ≤ 5 := hR_2740.at0 ra 4 (by decide)
                have g_2746 : (0 : Int) ≤ (I_2738 o 6).toInt ∧ (I_2738 o 6).toInt ≤ 1600 := hR_2740.at0 ra 6 (by decide)
                have g_2747 : (0 : Int) ≤ (I_2738 o 7).toInt ∧ (I_2738 o 7).toInt ≤ 1601 := hR_2740.at0 ra 7 (by decide)
                have g_2748 : (0 : Int) ≤ (I_2738 o 8).toInt ∧ (I_2738 o 8).toInt ≤ 6 := hR_2740.at0 ra 8 (by decide)
                have t_2749 : (I_2738 o 44).toInt = (I_2706 o 44).toInt := by rw [kp_2742 44 rfl]
                have t_2750 : (I_2738 o 45).toInt = (I_2706 o 45).toInt := by rw [kp_2742 45 rfl]
                have t_2751 : (I_2738 o 47).toInt = (I_2706 o 47).toInt := by rw [kp_2742 47 rfl]
                have t_2752 : (I_2738 o 48).toInt = (I_2706 o 48).toInt := by rw [kp_2742 48 rfl]
                have k_2753 : MTd I_2738 o := u_2703.fr (fr_2741 _ (by first | omega | (dsimp only; omega))) (fr_2741 _ (by first | omega | (dsimp only; omega))) (fr_2741 _ (by first | omega | (dsimp only; omega)))
                have w_2754 : I_2738 (o + 28) = I0 (o + 28) := (fr_2741 (o + 28) (by first | omega | (dsimp only; omega))).trans w_2721
                have hm26 := fr_2741 (o + 26) (by first | omega | (dsimp only; omega))
                have hm27 := fr_2741 (o + 27) (by first | omega | (dsimp only; omega))
                have hm30 := fr_2741 (o + 30) (by first | omega | (dsimp only; omega))
                have hm3 := kp_2742 3 rfl
                have hm44 := kp_2742 44 rfl
                have hm45 := kp_2742 45 rfl
                have tk2 := u_2737.1
                have g_2755 : (0 : Int) ≤ (I_2738 o 44).toInt ∧ (I_2738 o 44).toInt ≤ 4 := hR_2740.at0 ra 44 (by decide)
                have a_2756 : (10 * (I_2738 o 44)).toInt = 10 * (I_2738 o 44).toInt := tMulL rfl (by omega) (by omega)
                have a_2757 : ((10 * (I_2738 o 44)) + (0 : Int32)).toInt = (10 * (I_2738 o 44)).toInt + (0 : Int32).toInt := tAdd (by omega) (by omega)
                refine ⟨tIn (by omega) (by omega), fun I_2758 e_2759 => ?_⟩
                have hR_2760 : RI R I_2758 := hR_2740.up ra 26 (by decide) (Or.inl rfl) e_2759 (show (-1 : Int) ≤ (I_2677 o 45).toInt by omega) (show (I_2677 o 45).toInt ≤ (700 : Int) by omega)
                have hf_2761 : Fm (fun c => c = o ∨ (o + 26 ≤ c ∧ c < o + 34)) I0 I_2758 := hf_2743.set (by first | rfl | omega | (dsimp only; omega)) e_2759
                have t_2762 : (I_2758 o 3).toInt = (I_2738 o 3).toInt := by rw [← e_2759, q_u_ne (by omega)]
                have t_2763 : (I_2758 o 4).toInt = (I_2738 o 4).toInt := by rw [← e_2759, q_u_ne (by omega)]
                have t_2764 : (I_2758 o 6).toInt = (I_2738 o 6).toInt := by rw [← e_2759, q_u_ne (by omega)]
                have t_2765 : (I_2758 o 7).toInt = (I_2738 o 7).toInt := by rw [← e_2759, q_u_ne (by omega)]
                have t_2766 : (I_2758 o 8).toInt = (I_2738 o 8).toInt := by rw [← e_2759, q_u_ne (by omega)]
                have t_2767 : (I_2758 o 9).toInt = (I_2738 o 9).toInt := by rw [← e_2759, q_u_ne (by omega)]
                have t_2768 : (I_2758 o 44).toInt = (I_2738 o 44).toInt := by rw [← e_2759, q_u_ne (by omega)]
                have t_2769 : (I_2758 o 45).toInt = (I_2738 o 45).toInt := by rw [← e_2759, q_u_ne (by omega)]
                have t_2770 : (I_2758 o 47).toInt = (I_2738 o 47).toInt := by rw [← e_2759, q_u_ne (by omega)]
                have t_2771 : (I_2758 o 48).toInt = (I_2738 o 48).toInt := by rw [← e_2759, q_u_ne (by omega)]
                have k_2773 : MPo I_2758 o := u_2736.fr (by rw [← e_2759, q_u_ne (by omega)]) (by rw [← e_2759, q_u_ne (by omega)])
                have k_2774 : MTk I_2758 o := u_2737.fr (by rw [← e_2759, q_u_ne (by omega)]) (by rw [← e_2759, q_u_ne (by omega)]) (by rw [← e_2759, q_u_ne (by omega)])
                have w_2775 : I_2758 (o + 28) = I0 (o + 28) := by rw [← e_2759, q_u_ne (by omega)]; exact w_2754
                have k_2776 : MTd I_2758 o := by exact MTd.p26 k_2753 e_2759 (by omega)
                have g_2777 : (0 : Int) ≤ (I_2758 o 44).toInt ∧ (I_2758 o 44).toInt ≤ 4 := hR_2760.at0 ra 44 (by decide)
                have a_2778 : (10 * (I_2758 o 44)).toInt = 10 * (I_2758 o 44).toInt := tMulL rfl (by omega) (by omega)
                have a_2779 : ((10 * (I_2758 o 44)) + (0 : Int32)).toInt = (10 * (I_2758 o 44)).toInt + (0 : Int32).toInt := tAdd (by omega) (by omega)
                have g_2780 : (0 : Int) ≤ (I_2758 o 45).toInt ∧ (I_2758 o 45).toInt ≤ 700 := hR_2760.at0 ra 45 (by decide)
                refine ⟨tIn (by omega) (by omega), fun I_2781 e_2782 => ?_⟩
                have hR_2783 : RI R I_2781 := hR_2760.up ra 27 (by decide) (Or.inl rfl) e_2782 (show (0 : Int) ≤ (I_2758 o 45).toInt by omega) (show (I_2758 o 45).toInt ≤ (700 : Int) by omega)
                have hf_2784 : Fm (fun c => c = o ∨ (o + 26 ≤ c ∧ c < o + 34)) I0 I_2781 := hf_2761.set (by first | rfl | omega | (dsimp only; omega)) e_2782
                have t_2785 : (I_2781 o 3).toInt = (I_2758 o 3).toInt := by rw [← e_2782, q_u_ne (by omega)]
                have t_2786 : (I_2781 o 4).toInt = (I_2758 o 4).toInt := by rw [← e_2782, q_u_ne (by omega)]
                have t_2787 : (I_2781 o 6).toInt = (I_2758 o 6).toInt := by rw [← e_2782, q_u_ne (by omega)]
                have t_2788 : (I_2781 o 7).toInt = (I_2758 o 7).toInt := by rw [← e_2782, q_u_ne (by omega)]
                have t_2789 : (I_2781 o 8).toInt = (I_2758 o 8).toInt := by rw [← e_2782, q_u_ne (by omega)]
                have t_2790 : (I_2781 o 9).toInt = (I_2758 o 9).toInt := by rw [← e_2782, q_u_ne (by omega)]
                have t_2791 : (I_2781 o 44).toInt = (I_2758 o 44).toInt := by rw [← e_2782, q_u_ne (by omega)]
                have t_2792 : (I_2781 o 45).toInt = (I_2758 o 45).toInt := by rw [← e_2782, q_u_ne (by omega)]
                have t_2793 : (I_2781 o 47).toInt = (I_2758 o 47).toInt := by rw [← e_2782, q_u_ne (by omega)]
                have t_2794 : (I_2781 o 48).toInt = (I_2758 o 48).toInt := by rw [← e_2782, q_u_ne (by omega)]
                have k_2795 : MPo I_2781 o := k_2773.fr (by rw [← e_2782, q_u_ne (by omega)]) (by rw [← e_2782, q_u_ne (by omega)])
                have k_2796 : MTk I_2781 o := k_2774.fr (by rw [← e_2782, q_u_ne (by omega)]) (by rw [← e_2782, q_u_ne (by omega)]) (by rw [← e_2782, q_u_ne (by omega)])
                have w_2798 : I_2781 (o + 28) = I0 (o + 28) := by rw [← e_2782, q_u_ne (by omega)]; exact w_2775
                have k_2799 : MTd I_2781 o := by exact MTd.p27 k_2776 e_2782 (by omega)
                have k_2800 : ReG I_2781 o := by intro h; exact ReS.put (u_2702 (by omega)) (by omega) hm26 hm27 hm30 hm3 hm44 hm45 (by omega) (by omega) e_2759 e_2782 (by omega) (by omega)
                have l_2801 : (5 : Int32).toInt = 5 := rfl
                refine ⟨fun c_2802 => ?_, fun c_2802 => ?_⟩
                · have d_2803 := iLt c_2802
                  unfold fModel_readReform_228
                  have g_2804 : (0 : Int) ≤ (I_2781 o 44).toInt ∧ (I_2781 o 44).toInt ≤ 4 := hR_2783.at0 ra 44 (by decide)
                  refine ⟨tIn (by omega) (by omega), ?_⟩
                  refine ⟨tIn (by omega) (by omega), fun I_2805 e_2806 => ?_⟩
                  have hR_2807 : RI R I_2805 := hR_2783.up ra 29 (by decide) (Or.inl rfl) e_2806 (i_lo _) (i_hi _)
                  have hf_2808 : Fm (fun c => c = o ∨ (o + 26 ≤ c ∧ c < o + 34)) I0 I_2805 := hf_2784.set (by first | rfl | omega | (dsimp only; omega)) e_2806
                  have t_2809 : (I_2805 o 3).toInt = (I_2781 o 3).toInt := by rw [← e_2806, q_u_ne (by omega)]
                  have t_2810 : (I_2805 o 4).toInt = (I_2781 o 4).toInt := by rw [← e_2806, q_u_ne (by omega)]
                  have t_2811 : (I_2805 o 6).toInt = (I_2781 o 6).toInt := by rw [← e_2806, q_u_ne (by omega)]
                  have t_2812 : (I_2805 o 7).toInt = (I_2781 o 7).toInt := by rw [← e_2806, q_u_ne (by omega)]
                  have t_2813 : (I_2805 o 8).toInt = (I_2781 o 8).toInt := by rw [← e_2806, q_u_ne (by omega)]
                  have t_2814 : (I_2805 o 9).toInt = (I_2781 o 9).toInt := by rw [← e_2806, q_u_ne (by omega)]
                  have t_2815 : (I_2805 o 44).toInt = (I_2781 o 44).toInt := by rw [← e_2806, q_u_ne (by omega)]
                  have t_2816 : (I_2805 o 45).toInt = (I_2781 o 45).toInt := by rw [← e_2806, q_u_ne (by omega)]
                  have t_2817 : (I_2805 o 47).toInt = (I_2781 o 47).toInt := by rw [← e_2806, q_u_ne (by omega)]
                  have t_2818 : (I_2805 o 48).toInt = (I_2781 o 48).toInt := by rw [← e_2806, q_u_ne (by omega)]
                  have k_2819 : MPo I_2805 o := k_2795.fr (by rw [← e_2806, q_u_ne (by omega)]) (by rw [← e_2806, q_u_ne (by omega)])
                  have k_2820 : MTk I_2805 o := k_2796.fr (by rw [← e_2806, q_u_ne (by omega)]) (by rw [← e_2806, q_u_ne (by omega)]) (by rw [← e_2806, q_u_ne (by omega)])
                  have k_2821 : MTd I_2805 o := k_2799.fr (by rw [← e_2806]; exact q_u_ne (by omega)) (by rw [← e_2806]; exact q_u_ne (by omega)) (by rw [← e_2806]; exact q_u_ne (by omega))
                  have k_2822 : ReG I_2805 o := k_2800.fr (by rw [← e_2806]; exact q_u_ne (by omega)) (by rw [← e_2806]; exact q_u_ne (by omega)) (by rw [← e_2806]; exact q_u_ne (by omega)) (by rw [← e_2806, q_u_ne (by omega)]) (by rw [← e_2806, q_u_ne (by omega)]) (by rw [← e_2806, q_u_ne (by omega)]) (by rw [← e_2806, q_u_ne (by omega)]) (by rw [← e_2806, q_u_ne (by omega)])
                  have w_2823 : I_2805 (o + 28) = I0 (o + 28) := by rw [← e_2806, q_u_ne (by omega)]; exact w_2798
                  exact (hp _ _ hR_2807 hf_2808 (by first | omega | (intro h; omega) | exact Or.inl rfl | exact Or.inr rfl) (by first | omega | (intro h; omega) | exact Or.inl rfl | exact Or.inr rfl) (by first | omega | (intro h; omega) | exact Or.inl rfl | exact Or.inr rfl) (by first | omega | (intro h; omega) | exact Or.inl rfl | exact Or.inr rfl) (by first | omega | (intro h; omega) | exact Or.inl rfl | exact Or.inr rfl) k_2821 k_2819 k_2820 k_2822)
                · have d_2824 := iNlt c_2802
                  exfalso; omega
              · have d_2825 := iEq c_2647
                have i_2826 := u_2645 (by omega)
                exact (hp _ _ hR hf (by first | omega | (intro h; omega) | exact Or.inl rfl | exact Or.inr rfl) (by first | omega | (intro h; omega) | exact Or.inl rfl | exact Or.inr rfl) (by first | omega | (intro h; omega) | exact Or.inl rfl | exact Or.inr rfl) (by first | omega | (intro h; omega) | exact Or.inl rfl | exact Or.inr rfl) (by first | omega | (intro h; omega) | exact Or.inl rfl | exact Or.inr rfl) hq4 hq5 hq6 (fun h => absurd h (by omega)))
            · have d_2827 := iNlt c_2640
              refine y_Model_wrong hok hw ra hz14 hz15 hR (fun I_2831 L_2832 hR_2833 fr_2834 kp_2835 u_2829 u_2830 => ⟨I_2831, L_2832, rfl, rfl, ?_⟩)
              have hf_2836 : Fm (fun c => c = o ∨ (o + 26 ≤ c ∧ c < o + 34)) I0 I_2831 := hf.call fr_2834 (fun c hc => by first | exact hc | (dsimp only at hc ⊢; omega) | omega)
              have t_2837 : (I_2831 o 3).toInt = (I0 o 3).toInt := by rw [kp_2835 3 rfl]
              have g_2838 : (0 : Int) ≤ (I_2831 o 4).toInt ∧ (I_2831 o 4).toInt ≤ 5 := hR_2833.at0 ra 4 (by decide)
              have t_2839 : (I_2831 o 6).toInt = (I0 o 6).toInt := by rw [kp_2835 6 rfl]
              have t_2840 : (I_2831 o 7).toInt = (I0 o 7).toInt := by rw [kp_2835 7 rfl]
              have t_2841 : (I_2831 o 8).toInt = (I0 o 8).toInt := by rw [kp_2835 8 rfl]
              have t_2842 : (I_2831 o 9).toInt = (I0 o 9).toInt := by rw [kp_2835 9 rfl]
              have t_2843 : (I_2831 o 44).toInt = (I0 o 44).toInt := by rw [kp_2835 44 rfl]
              have t_2844 : (I_2831 o 45).toInt = (I0 o 45).toInt := by rw [kp_2835 45 rfl]
              have t_2845 : (I_2831 o 47).toInt = (I0 o 47).toInt := by rw [kp_2835 47 rfl]
              have t_2846 : (I_2831 o 48).toInt = (I0 o 48).toInt := by rw [kp_2835 48 rfl]
              have k_2847 : ReS I_2831 o := hq3.fr (fr_2834 _ (by first | omega | (dsimp only; omega))) (fr_2834 _ (by first | omega | (dsimp only; omega))) (fr_2834 _ (by first | omega | (dsimp only; omega))) (kp_2835 3 rfl) (kp_2835 6 rfl) (kp_2835 44 rfl) (kp_2835 45 rfl)
              have k_2848 : MTd I_2831 o := hq4.fr (fr_2834 _ (by first | omega | (dsimp only; omega))) (fr_2834 _ (by first | omega | (dsimp only; omega))) (fr_2834 _ (by first | omega | (dsimp only; omega)))
              have k_2849 : MPo I_2831 o := hq5.fr (kp_2835 8 rfl) (kp_2835 9 rfl)
              have k_2850 : MTk I_2831 o := hq6.fr (kp_2835 6 rfl) (kp_2835 7 rfl) (kp_2835 8 rfl)
              have w_2851 : I_2831 (o + 28) = I0 (o + 28) := (fr_2834 (o + 28) (by first | omega | (dsimp only; omega)))
              refine y_Model_isGood hok hw ra hR_2833 (fun r_2852 u_2853 u_2854 u_2855 => ⟨r_2852, I_2831, L_2832, rfl, rfl, ?_⟩)
              have b_2856 : 0 ≤ r_2852.toInt ∧ r_2852.toInt ≤ 1 := u_2853.rg
              refine ⟨fun c_2857 => ?_, fun c_2857 => ?_⟩
              · have d_2858 := iNe c_2857
                have i_2859 := u_2854 (by omega)
                have tk := k_2850.1
                refine y_Model_next hok hw ra hz16 hz17 hz18 hz19 (by first | omega | (intro h; omega) | exact Or.inl rfl | exact Or.inr rfl) hR_2833 (fun I_2869 L_2870 hR_2871 fr_2872 kp_2873 u_2861 u_2862 u_2863 u_2864 u_2865 u_2866 u_2867 u_2868 => ⟨I_2869, L_2870, rfl, rfl, ?_⟩)
                have hf_2874 : Fm (fun c => c = o ∨ (o + 26 ≤ c ∧ c < o + 34)) I0 I_2869 := hf_2836.call fr_2872 (fun c hc => by first | exact hc | (dsimp only at hc ⊢; omega) | omega)
                have t_2875 : (I_2869 o 3).toInt = (I_2831 o 3).toInt := by rw [kp_2873 3 rfl]
                have t_2876 : (I_2869 o 4).toInt = (I_2831 o 4).toInt := by rw [kp_2873 4 rfl]
                have g_2877 : (0 : Int) ≤ (I_2869 o 6).toInt ∧ (I_2869 o 6).toInt ≤ 1600 := hR_2871.at0 ra 6 (by decide)
                have g_2878 : (0 : Int) ≤ (I_2869 o 7).toInt ∧ (I_2869 o 7).toInt ≤ 1601 := hR_2871.at0 ra 7 (by decide)
                have g_2879 : (0 : Int) ≤ (I_2869 o 8).toInt ∧ (I_2869 o 8).toInt ≤ 6 := hR_2871.at0 ra 8 (by decide)
                have t_2880 : (I_2869 o 44).toInt = (I_2831 o 44).toInt := by rw [kp_2873 44 rfl]
                have t_2881 : (I_2869 o 45).toInt = (I_2831 o 45).toInt := by rw [kp_2873 45 rfl]
                have t_2882 : (I_2869 o 47).toInt = (I_2831 o 47).toInt := by rw [kp_2873 47 rfl]
                have t_2883 : (I_2869 o 48).toInt = (I_2831 o 48).toInt := by rw [kp_2873 48 rfl]
                have k_2884 : MTd I_2869 o := k_2848.fr (fr_2872 _ (by first | omega | (dsimp only; omega))) (fr_2872 _ (by first | omega | (dsimp only; omega))) (fr_2872 _ (by first | omega | (dsimp only; omega)))
                have w_2885 : I_2869 (o + 28) = I0 (o + 28) := (fr_2872 (o + 28) (by first | omega | (dsimp only; omega))).trans w_2851
                have ms := u_2864 (by omega)
                have k_2886 : ReS I_2869 o := by exact ReS.at k_2847 (fr_2872 _ (by first | omega | (dsimp only; omega))) (fr_2872 _ (by first | omega | (dsimp only; omega))) (fr_2872 _ (by first | omega | (dsimp only; omega))) (kp_2873 3 rfl) (by omega) (by omega) (kp_2873 44 rfl) (kp_2873 45 rfl)
                refine fun I_2887 e_2888 => ?_
                have hR_2889 : RI R I_2887 := hR_2871.up0 (k := 49) ra (by decide) (Or.inr hz59) e_2888 (i_lo _) (i_hi _)
                have hf_2890 : Fm (fun c => c = o ∨ (o + 26 ≤ c ∧ c < o + 34)) I0 I_2887 := hf_2874.set (by first | rfl | omega | (dsimp only; omega)) e_2888
                have t_2891 : (I_2887 o 3).toInt = (I_2869 o 3).toInt := by rw [← e_2888, q_u_k (by decide)]
                have t_2892 : (I_2887 o 4).toInt = (I_2869 o 4).toInt := by rw [← e_2888, q_u_k (by decide)]
                have t_2893 : (I_2887 o 6).toInt = (I_2869 o 6).toInt := by rw [← e_2888, q_u_k (by decide)]
                have t_2894 : (I_2887 o 7).toInt = (I_2869 o 7).toInt := by rw [← e_2888, q_u_k (by decide)]
                have t_2895 : (I_2887 o 8).toInt = (I_2869 o 8).toInt := by rw [← e_2888, q_u_k (by decide)]
                have t_2896 : (I_2887 o 9).toInt = (I_2869 o 9).toInt := by rw [← e_2888, q_u_k (by decide)]
                have t_2897 : (I_2887 o 44).toInt = (I_2869 o 44).toInt := by rw [← e_2888, q_u_k (by decide)]
                have t_2898 : (I_2887 o 45).toInt = (I_2869 o 45).toInt := by rw [← e_2888, q_u_k (by decide)]
                have t_2899 : (I_2887 o 47).toInt = (I_2869 o 47).toInt := by rw [← e_2888, q_u_k (by decide)]
                have t_2900 : (I_2887 o 48).toInt = (I_2869 o 48).toInt := by rw [← e_2888, q_u_k (by decide)]
                have k_2901 : MTd I_2887 o := k_2884.fr (by rw [← e_2888]; exact q_u_ne (by omega)) (by rw [← e_2888]; exact q_u_ne (by omega)) (by rw [← e_2888]; exact q_u_ne (by omega))
                have k_2902 : MPo I_2887 o := u_2867.fr (by rw [← e_2888, q_u_k (by decide)]) (by rw [← e_2888, q_u_k (by decide)])
                have k_2903 : MTk I_2887 o := u_2868.fr (by rw [← e_2888, q_u_k (by decide)]) (by rw [← e_2888, q_u_k (by decide)]) (by rw [← e_2888, q_u_k (by decide)])
                have k_2904 : ReS I_2887 o := k_2886.fr (by rw [← e_2888]; exact q_u_ne (by omega)) (by rw [← e_2888]; exact q_u_ne (by omega)) (by rw [← e_2888]; exact q_u_ne (by omega)) (by rw [← e_2888, q_u_k (by decide)]) (by rw [← e_2888, q_u_k (by decide)]) (by rw [← e_2888, q_u_k (by decide)]) (by rw [← e_2888, q_u_k (by decide)])
                have w_2905 : I_2887 (o + 28) = I0 (o + 28) := by rw [← e_2888, q_u_ne (by omega)]; exact w_2885
                have g_2906 : (0 : Int) ≤ (I_2887 o 45).toInt ∧ (I_2887 o 45).toInt ≤ 700 := hR_2889.at0 ra 45 (by decide)
                refine y_Model_e hok hw ra hz14 hz15 hz16 hz17 hz18 hz19 hz55 hz56 hz57 hz58 (by first | omega | (intro h; omega) | exact Or.inl rfl | exact Or.inr rfl) (by first | omega | (intro h; omega) | exact Or.inl rfl | exact Or.inr rfl) k_2904 k_2901 k_2902 k_2903 hR_2889 (fun I_2916 L_2917 hR_2918 fr_2919 kp_2920 u_2908 u_2909 u_2910 u_2911 u_2912 u_2913 u_2914 u_2915 => ⟨I_2916, L_2917, rfl, rfl, ?_⟩)
                have hf_2921 : Fm (fun c => c = o ∨ (o + 26 ≤ c ∧ c < o + 34)) I0 I_2916 := hf_2890.call fr_2919 (fun c hc => by first | exact hc | (dsimp only at hc ⊢; omega) | omega)
                have t_2922 : (I_2916 o 3).toInt = (I_2887 o 3).toInt := by rw [kp_2920 3 rfl]
                have g_2923 : (0 : Int) ≤ (I_2916 o 4).toInt ∧ (I_2916 o 4).toInt ≤ 5 := hR_2918.at0 ra 4 (by decide)
                have g_2924 : (0 : Int) ≤ (I_2916 o 6).toInt ∧ (I_2916 o 6).toInt ≤ 1600 := hR_2918.at0 ra 6 (by decide)
                have g_2925 : (0 : Int) ≤ (I_2916 o 7).toInt ∧ (I_2916 o 7).toInt ≤ 1601 := hR_2918.at0 ra 7 (by decide)
                have g_2926 : (0 : Int) ≤ (I_2916 o 8).toInt ∧ (I_2916 o 8).toInt ≤ 6 := hR_2918.at0 ra 8 (by decide)
                have t_2927 : (I_2916 o 44).toInt = (I_2887 o 44).toInt := by rw [kp_2920 44 rfl]
                have g_2928 : (0 : Int) ≤ (I_2916 o 45).toInt ∧ (I_2916 o 45).toInt ≤ 700 := hR_2918.at0 ra 45 (by decide)
                have g_2929 : (0 : Int) ≤ (I_2916 o 47).toInt ∧ (I_2916 o 47).toInt ≤ 7 := hR_2918.at0 ra 47 (by decide)
                have g_2930 : (0 : Int) ≤ (I_2916 o 48).toInt ∧ (I_2916 o 48).toInt ≤ 80 := hR_2918.at0 ra 48 (by decide)
                have w_2931 : I_2916 (o + 28) = I0 (o + 28) := (fr_2919 (o + 28) (by first | omega | (dsimp only; omega))).trans w_2905
                have l_2932 : (59 : Int32).toInt = 59 := rfl
                refine y_Model_is hok hw ra hR_2918 (fun r_2933 u_2934 u_2935 u_2936 => ⟨r_2933, I_2916, L_2917, rfl, rfl, ?_⟩)
                have b_2937 : 0 ≤ r_2933.toInt ∧ r_2933.toInt ≤ 1 := u_2934.rg
                refine y_Model_must hok hw ra hz14 hz15 hz16 hz17 hz18 hz19 (by first | omega | (intro h; omega) | exact Or.inl rfl | exact Or.inr rfl) u_2914 u_2915 hR_2918 (fun I_2948 L_2949 hR_2950 fr_2951 kp_2952 u_2939 u_2940 u_2941 u_2942 u_2943 u_2944 u_2945 u_2946 u_2947 => ⟨I_2948, L_2949, rfl, rfl, ?_⟩)
                have hf_2953 : Fm (fun c => c = o ∨ (o + 26 ≤ c ∧ c < o + 34)) I0 I_2948 := hf_2921.call fr_2951 (fun c hc => by first | exact hc | (dsimp only at hc ⊢; omega) | omega)
                have t_2954 : (I_2948 o 3).toInt = (I_2916 o 3).toInt := by rw [kp_2952 3 rfl]
                have g_2955 : (0 : Int) ≤ (I_2948 o 4).toInt ∧ (I_2948 o 4).toInt ≤ 5 := hR_2950.at0 ra 4 (by decide)
                have g_2956 : (0 : Int) ≤ (I_2948 o 6).toInt ∧ (I_2948 o 6).toInt ≤ 1600 := hR_2950.at0 ra 6 (by decide)
                have g_2957 : (0 : Int) ≤ (I_2948 o 7).toInt ∧ (I_2948 o 7).toInt ≤ 1601 := hR_2950.at0 ra 7 (by decide)
                have g_2958 : (0 : Int) ≤ (I_2948 o 8).toInt ∧ (I_2948 o 8).toInt ≤ 6 := hR_2950.at0 ra 8 (by decide)
                have t_2959 : (I_2948 o 44).toInt = (I_2916 o 44).toInt := by rw [kp_2952 44 rfl]
                have t_2960 : (I_2948 o 45).toInt = (I_2916 o 45).toInt := by rw [kp_2952 45 rfl]
                have t_2961 : (I_2948 o 47).toInt = (I_2916 o 47).toInt := by rw [kp_2952 47 rfl]
                have t_2962 : (I_2948 o 48).toInt = (I_2916 o 48).toInt := by rw [kp_2952 48 rfl]
                have k_2963 : MTd I_2948 o := u_2913.fr (fr_2951 _ (by first | omega | (dsimp only; omega))) (fr_2951 _ (by first | omega | (dsimp only; omega))) (fr_2951 _ (by first | omega | (dsimp only; omega)))
                have w_2964 : I_2948 (o + 28) = I0 (o + 28) := (fr_2951 (o + 28) (by first | omega | (dsimp only; omega))).trans w_2931
                have hm26 := fr_2951 (o + 26) (by first | omega | (dsimp only; omega))
                have hm27 := fr_2951 (o + 27) (by first | omega | (dsimp only; omega))
                have hm30 := fr_2951 (o + 30) (by first | omega | (dsimp only; omega))
                have hm3 := kp_2952 3 rfl
                have hm44 := kp_2952 44 rfl
                have hm45 := kp_2952 45 rfl
                have tk2 := u_2947.1
                have g_2965 : (0 : Int) ≤ (I_2948 o 44).toInt ∧ (I_2948 o 44).toInt ≤ 4 := hR_2950.at0 ra 44 (by decide)
                have a_2966 : (10 * (I_2948 o 44)).toInt = 10 * (I_2948 o 44).toInt := tMulL rfl (by omega) (by omega)
                have a_2967 : ((10 * (I_2948 o 44)) + (0 : Int32)).toInt = (10 * (I_2948 o 44)).toInt + (0 : Int32).toInt := tAdd (by omega) (by omega)
                refine ⟨tIn (by omega) (by omega), fun I_2968 e_2969 => ?_⟩
                have hR_2970 : RI R I_2968 := hR_2950.up ra 26 (by decide) (Or.inl rfl) e_2969 (show (-1 : Int) ≤ (I_2887 o 45).toInt by omega) (show (I_2887 o 45).toInt ≤ (700 : Int) by omega)
                have hf_2971 : Fm (fun c => c = o ∨ (o + 26 ≤ c ∧ c < o + 34)) I0 I_2968 := hf_2953.set (by first | rfl | omega | (dsimp only; omega)) e_2969
                have t_2972 : (I_2968 o 3).toInt = (I_2948 o 3).toInt := by rw [← e_2969, q_u_ne (by omega)]
                have t_2973 : (I_2968 o 4).toInt = (I_2948 o 4).toInt := by rw [← e_2969, q_u_ne (by omega)]
                have t_2974 : (I_2968 o 6).toInt = (I_2948 o 6).toInt := by rw [← e_2969, q_u_ne (by omega)]
                have t_2975 : (I_2968 o 7).toInt = (I_2948 o 7).toInt := by rw [← e_2969, q_u_ne (by omega)]
                have t_2976 : (I_2968 o 8).toInt = (I_2948 o 8).toInt := by rw [← e_2969, q_u_ne (by omega)]
                have t_2977 : (I_2968 o 9).toInt = (I_2948 o 9).toInt := by rw [← e_2969, q_u_ne (by omega)]
                have t_2978 : (I_2968 o 44).toInt = (I_2948 o 44).toInt := by rw [← e_2969, q_u_ne (by omega)]
                have t_2979 : (I_2968 o 45).toInt = (I_2948 o 45).toInt := by rw [← e_2969, q_u_ne (by omega)]
                have t_2980 : (I_2968 o 47).toInt = (I_2948 o 47).toInt := by rw [← e_2969, q_u_ne (by omega)]
                have t_2981 : (I_2968 o 48).toInt = (I_2948 o 48).toInt := by rw [← e_2969, q_u_ne (by omega)]
                have k_2983 : MPo I_2968 o := u_2946.fr (by rw [← e_2969, q_u_ne (by omega)]) (by rw [← e_2969, q_u_ne (by omega)])
                have k_2984 : MTk I_2968 o := u_2947.fr (by rw [← e_2969, q_u_ne (by omega)]) (by rw [← e_2969, q_u_ne (by omega)]) (by rw [← e_2969, q_u_ne (by omega)])
                have w_2985 : I_2968 (o + 28) = I0 (o + 28) := by rw [← e_2969, q_u_ne (by omega)]; exact w_2964
                have k_2986 : MTd I_2968 o := by exact MTd.p26 k_2963 e_2969 (by omega)
                have g_2987 : (0 : Int) ≤ (I_2968 o 44).toInt ∧ (I_2968 o 44).toInt ≤ 4 := hR_2970.at0 ra 44 (by decide)
                have a_2988 : (10 * (I_2968 o 44)).toInt = 10 * (I_2968 o 44).toInt := tMulL rfl (by omega) (by omega)
                have a_2989 : ((10 * (I_2968 o 44)) + (0 : Int32)).toInt = (10 * (I_2968 o 44)).toInt + (0 : Int32).toInt := tAdd (by omega) (by omega)
                have g_2990 : (0 : Int) ≤ (I_2968 o 45).toInt ∧ (I_2968 o 45).toInt ≤ 700 := hR_2970.at0 ra 45 (by decide)
                refine ⟨tIn (by omega) (by omega), fun I_2991 e_2992 => ?_⟩
                have hR_2993 : RI R I_2991 := hR_2970.up ra 27 (by decide) (Or.inl rfl) e_2992 (show (0 : Int) ≤ (I_2968 o 45).toInt by omega) (show (I_2968 o 45).toInt ≤ (700 : Int) by omega)
                have hf_2994 : Fm (fun c => c = o ∨ (o + 26 ≤ c ∧ c < o + 34)) I0 I_2991 := hf_2971.set (by first | rfl | omega | (dsimp only; omega)) e_2992
                have t_2995 : (I_2991 o 3).toInt = (I_2968 o 3).toInt := by rw [← e_2992, q_u_ne (by omega)]
                have t_2996 : (I_2991 o 4).toInt = (I_2968 o 4).toInt := by rw [← e_2992, q_u_ne (by omega)]
                have t_2997 : (I_2991 o 6).toInt = (I_2968 o 6).toInt := by rw [← e_2992, q_u_ne (by omega)]
                have t_2998 : (I_2991 o 7).toInt = (I_2968 o 7).toInt := by rw [← e_2992, q_u_ne (by omega)]
                have t_2999 : (I_2991 o 8).toInt = (I_2968 o 8).toInt := by rw [← e_2992, q_u_ne (by omega)]
                have t_3000 : (I_2991 o 9).toInt = (I_2968 o 9).toInt := by rw [← e_2992, q_u_ne (by omega)]
                have t_3001 : (I_2991 o 44).toInt = (I_2968 o 44).toInt := by rw [← e_2992, q_u_ne (by omega)]
                have t_3002 : (I_2991 o 45).toInt = (I_2968 o 45).toInt := by rw [← e_2992, q_u_ne (by omega)]
                have t_3003 : (I_2991 o 47).toInt = (I_2968 o 47).toInt := by rw [← e_2992, q_u_ne (by omega)]
                have t_3004 : (I_2991 o 48).toInt = (I_2968 o 48).toInt := by rw [← e_2992, q_u_ne (by omega)]
                have k_3005 : MPo I_2991 o := k_2983.fr (by rw [← e_2992, q_u_ne (by omega)]) (by rw [← e_2992, q_u_ne (by omega)])
                have k_3006 : MTk I_2991 o := k_2984.fr (by rw [← e_2992, q_u_ne (by omega)]) (by rw [← e_2992, q_u_ne (by omega)]) (by rw [← e_2992, q_u_ne (by omega)])
                have w_3008 : I_2991 (o + 28) = I0 (o + 28) := by rw [← e_2992, q_u_ne (by omega)]; exact w_2985
                have k_3009 : MTd I_2991 o := by exact MTd.p27 k_2986 e_2992 (by omega)
                have k_3010 : ReG I_2991 o := by intro h; exact ReS.put (u_2912 (by omega)) (by omega) hm26 hm27 hm30 hm3 hm44 hm45 (by omega) (by omega) e_2969 e_2992 (by omega) (by omega)
                have l_3011 : (5 : Int32).toInt = 5 := rfl
                refine ⟨fun c_3012 => ?_, fun c_3012 => ?_⟩
                · have d_3013 := iLt c_3012
                  unfold fModel_readReform_228
                  have g_3014 : (0 : Int) ≤ (I_2991 o 44).toInt ∧ (I_2991 o 44).toInt ≤ 4 := hR_2993.at0 ra 44 (by decide)
                  refine ⟨tIn (by omega) (by omega), ?_⟩
                  refine ⟨tIn (by omega) (by omega), fun I_3015 e_3016 => ?_⟩
                  have hR_3017 : RI R I_3015 := hR_2993.up ra 29 (by decide) (Or.inl rfl) e_3016 (i_lo _) (i_hi _)
                  have hf_3018 : Fm (fun c => c = o ∨ (o + 26 ≤ c ∧ c < o + 34)) I0 I_3015 := hf_2994.set (by first | rfl | omega | (dsimp only; omega)) e_3016
                  have t_3019 : (I_3015 o 3).toInt = (I_2991 o 3).toInt := by rw [← e_3016, q_u_ne (by omega)]
                  have t_3020 : (I_3015 o 4).toInt = (I_2991 o 4).toInt := by rw [← e_3016, q_u_ne (by omega)]
                  have t_3021 : (I_3015 o 6).toInt = (I_2991 o 6).toInt := by rw [← e_3016, q_u_ne (by omega)]
                  have t_3022 : (I_3015 o 7).toInt = (I_2991 o 7).toInt := by rw [← e_3016, q_u_ne (by omega)]
                  have t_3023 : (I_3015 o 8).toInt = (I_2991 o 8).toInt := by rw [← e_3016, q_u_ne (by omega)]
                  have t_3024 : (I_3015 o 9).toInt = (I_2991 o 9).toInt := by rw [← e_3016, q_u_ne (by omega)]
                  have t_3025 : (I_3015 o 44).toInt = (I_2991 o 44).toInt := by rw [← e_3016, q_u_ne (by omega)]
                  have t_3026 : (I_3015 o 45).toInt = (I_2991 o 45).toInt := by rw [← e_3016, q_u_ne (by omega)]
                  have t_3027 : (I_3015 o 47).toInt = (I_2991 o 47).toInt := by rw [← e_3016, q_u_ne (by omega)]
                  have t_3028 : (I_3015 o 48).toInt = (I_2991 o 48).toInt := by rw [← e_3016, q_u_ne (by omega)]
                  have k_3029 : MPo I_3015 o := k_3005.fr (by rw [← e_3016, q_u_ne (by omega)]) (by rw [← e_3016, q_u_ne (by omega)])
                  have k_3030 : MTk I_3015 o := k_3006.fr (by rw [← e_3016, q_u_ne (by omega)]) (by rw [← e_3016, q_u_ne (by omega)]) (by rw [← e_3016, q_u_ne (by omega)])
                  have k_3031 : MTd I_3015 o := k_3009.fr (by rw [← e_3016]; exact q_u_ne (by omega)) (by rw [← e_3016]; exact q_u_ne (by omega)) (by rw [← e_3016]; exact q_u_ne (by omega))
                  have k_3032 : ReG I_3015 o := k_3010.fr (by rw [← e_3016]; exact q_u_ne (by omega)) (by rw [← e_3016]; exact q_u_ne (by omega)) (by rw [← e_3016]; exact q_u_ne (by omega)) (by rw [← e_3016, q_u_ne (by omega)]) (by rw [← e_3016, q_u_ne (by omega)]) (by rw [← e_3016, q_u_ne (by omega)]) (by rw [← e_3016, q_u_ne (by omega)]) (by rw [← e_3016, q_u_ne (by omega)])
                  have w_3033 : I_3015 (o + 28) = I0 (o + 28) := by rw [← e_3016, q_u_ne (by omega)]; exact w_3008
                  exact (hp _ _ hR_3017 hf_3018 (by first | omega | (intro h; omega) | exact Or.inl rfl | exact Or.inr rfl) (by first | omega | (intro h; omega) | exact Or.inl rfl | exact Or.inr rfl) (by first | omega | (intro h; omega) | exact Or.inl rfl | exact Or.inr rfl) (by first | omega | (intro h; omega) | exact Or.inl rfl | exact Or.inr rfl) (by first | omega | (intro h; omega) | exact Or.inl rfl | exact Or.inr rfl) k_3031 k_3029 k_3030 k_3032)
                · have d_3034 := iNlt c_3012
                  exfalso; omega
              · have d_3035 := iEq c_2857
                have i_3036 := u_2855 (by omega)
                exact (hp _ _ hR_2833 hf_2836 (by first | omega | (intro h; omega) | exact Or.inl rfl | exact Or.inr rfl) (by first | omega | (intro h; omega) | exact Or.inl rfl | exact Or.inr rfl) (by first | omega | (intro h; omega) | exact Or.inl rfl | exact Or.inr rfl) (by first | omega | (intro h; omega) | exact Or.inl rfl | exact Or.inr rfl) (by first | omega | (intro h; omega) | exact Or.inl rfl | exact Or.inr rfl) k_2848 k_2849 k_2850 (fun h => absurd h (by omega)))
          · have d_3037 := iNlt c_2636
            exfalso; omega
theorem y_Model_readReform {D : va_G} {cA : FieldType → ClassId} {b : Nat} {E : State → Prop} {R : qRg} {o n : Nat} {sh : Nat → qC} {Rf : Nat → Nat → Option Nat} {I0 : Nat → Nat → Int32} {L0 : Nat → Nat → Int64} {post : Option Value → qS → Prop} (hok : q_ok (qGG D cA b E)) (hw : WfModel (qGG D cA b E) n sh Rf o) (ra : RAModel R o) (hz14 : R.2 14 = true) (hz15 : R.2 15 = true) (hz16 : R.2 16 = true) (hz17 : R.2 17 = true) (hz18 : R.2 18 = true) (hz19 : R.2 19 = true) (hz55 : R.2 55 = true) (hz56 : R.2 56 = true) (hz57 : R.2 57 = true) (hz58 : R.2 58 = true) (hz59 : R.2 59 = true) (hq0 : (I0 o 7).toInt ≤ (I0 o 3).toInt) (hq1 : (I0 o 4).toInt = 0) (hq2 : (I0 o 8).toInt ≠ 0) (hq3 : ReS I0 o) (hq4 : MTd I0 o) (hq5 : MPo I0 o) (hq6 : MTk I0 o) (hR : RI R I0) (hp : ∀ (I' : Nat → Nat → Int32) (L' : Nat → Nat → Int64), RI R I' → Fm (fun c => c = o ∨ (o + 26 ≤ c ∧ c < o + 34)) I0 I' → Kp wModel_readReform I0 I' o → ((I' o 7).toInt ≤ (I' o 3).toInt) → ((I0 o 7).toInt ≤ (I' o 7).toInt) → ((I0 o 4).toInt ≤ (I' o 4).toInt) → (7 * (I0 o 7).toInt - (I0 o 8).toInt + (I0 o 4).toInt ≤ 7 * (I' o 7).toInt - (I' o 8).toInt + (I' o 4).toInt) → (7 * (I0 o 7).toInt - (I0 o 8).toInt + (I0 o 4).toInt < 7 * (I' o 7).toInt - (I' o 8).toInt + (I' o 4).toInt) → (MTd I' o) → (MPo I' o) → (MTk I' o) → (ReG I' o) → post none (n, sh, Rf, I', L')) : Ev (qGG D cA b E) mModel_readReform 6 (0, 0) 0 (lv_args 0 [.ref o]) [] (n, sh, Rf, I0, L0) post :=
  yc_Model_readReform (R := fzR R I0 o wModel_readReform) hok hw (fzA ra hR _) (fzT hz14 rfl) (fzT hz15 rfl) (fzT hz16 rfl) (fzT hz17 rfl) (fzT hz18 rfl) (fzT hz19 rfl) (fzT hz55 rfl) (fzT hz56 rfl) (fzT hz57 rfl) (fzT hz58 rfl) (fzT hz59 rfl) fzZ (fzI hR) hq0 hq1 hq2 hq3 hq4 hq5 hq6 (fzI hR) (fun I' L' h1 h2 u0 u1 u2 u3 u4 u5 u6 u7 u8 => hp I' L' (fzB hR h1) h2 (fzP h1) u0 u1 u2 u3 u4 u5 u6 u7 u8)
