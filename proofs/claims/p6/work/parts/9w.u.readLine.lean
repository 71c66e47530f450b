/-! Safety of the reference, the lines of a LAND: by program (spec.py). -/
def wModel_readLine : Nat → Bool := fun j => Nat.beq j 14 || Nat.beq j 15 || Nat.beq j 16 || Nat.beq j 17 || Nat.beq j 18 || Nat.beq j 19 || false
set_option maxHeartbeats 4000000 in
set_option maxRecDepth 20000 in
theorem yc_Model_readLine {D : va_G} {cA : FieldType → ClassId} {b : Nat} {E : State → Prop} {R : qRg} {o n : Nat} {sh : Nat → qC} {Rf : Nat → Nat → Option Nat} {I0 : Nat → Nat → Int32} {L0 : Nat → Nat → Int64} {post : Option Value → qS → Prop} (hok : q_ok (qGG D cA b E)) (hw : WfModel (qGG D cA b E) n sh Rf o) (ra : RAModel R o) (hz14 : R.2 14 = true) (hz15 : R.2 15 = true) (hz16 : R.2 16 = true) (hz17 : R.2 17 = true) (hz18 : R.2 18 = true) (hz19 : R.2 19 = true) (hZ : Fz R I0 o wModel_readLine) (hR0 : RI R I0) (hq0 : (I0 o 7).toInt ≤ (I0 o 3).toInt) (hq1 : (I0 o 4).toInt = 0) (hq2 : (I0 o 8).toInt ≠ 0) (hq3 : MPo I0 o) (hq4 : MTk I0 o) (hR : RI R I0) (hp : ∀ (I' : Nat → Nat → Int32) (L' : Nat → Nat → Int64), RI R I' → Fm (fun c => c = o ∨ (o + 6 ≤ c ∧ c < o + 25)) I0 I' → ((I' o 7).toInt ≤ (I' o 3).toInt) → ((I0 o 7).toInt ≤ (I' o 7).toInt) → ((I0 o 4).toInt ≤ (I' o 4).toInt) → (7 * (I0 o 7).toInt - (I0 o 8).toInt + (I0 o 4).toInt ≤ 7 * (I' o 7).toInt - (I' o 8).toInt + (I' o 4).toInt) → (7 * (I0 o 7).toInt - (I0 o 8).toInt + (I0 o 4).toInt < 7 * (I' o 7).toInt - (I' o 8).toInt + (I' o 4).toInt) → (MPo I' o) → (MTk I' o) → post none (n, sh, Rf, I', L')) : Ev (qGG D cA b E) mModel_readLine 6 (0, 0) 0 (lv_args 0 [.ref o]) [] (n, sh, Rf, I0, L0) post := by
  have hf : Fm (fun c => c = o ∨ (o + 6 ≤ c ∧ c < o + 25)) I0 I0 := Fm.rf
  have g_1 : (0 : Int) ≤ (I0 o 3).toInt ∧ (I0 o 3).toInt ≤ 1600 := hR.at0 ra 3 (by decide)
  have g_2 : (0 : Int) ≤ (I0 o 4).toInt ∧ (I0 o 4).toInt ≤ 5 := hR.at0 ra 4 (by decide)
  have g_3 : (0 : Int) ≤ (I0 o 6).toInt ∧ (I0 o 6).toInt ≤ 1600 := hR.at0 ra 6 (by decide)
  have g_4 : (0 : Int) ≤ (I0 o 7).toInt ∧ (I0 o 7).toInt ≤ 1601 := hR.at0 ra 7 (by decide)
  have g_5 : (0 : Int) ≤ (I0 o 8).toInt ∧ (I0 o 8).toInt ≤ 6 := hR.at0 ra 8 (by decide)
  refine sModel_readLine_0 o n sh Rf I0 L0 post  hok hw ?_
  unfold fModel_readLine_0
  have l_6 : (1919902052 : Int32).toInt = 1919902052 := rfl
  refine y_Model_isWord hok hw ra hR (fun r_7 u_8 u_9 => ⟨r_7, I0, L0, rfl, rfl, ?_⟩)
  have b_10 : 0 ≤ r_7.toInt ∧ r_7.toInt ≤ 1 := u_8.rg
  have l_11 : (1718579828 : Int32).toInt = 1718579828 := rfl
  refine y_Model_isWord hok hw ra hR (fun r_12 u_13 u_14 => ⟨r_12, I0, L0, rfl, rfl, ?_⟩)
  have b_15 : 0 ≤ r_12.toInt ∧ r_12.toInt ≤ 1 := u_13.rg
  have l_16 : (7364974 : Int32).toInt = 7364974 := rfl
  refine y_Model_isWord hok hw ra hR (fun r_17 u_18 u_19 => ⟨r_17, I0, L0, rfl, rfl, ?_⟩)
  have b_20 : 0 ≤ r_17.toInt ∧ r_17.toInt ≤ 1 := u_18.rg
  have l_21 : (0 : Int32).toInt = 0 := rfl
  refine ⟨fun c_22 => ?_, fun c_22 => ?_⟩
  · have d_23 := iEq c_22
    refine ⟨fun c_24 => ?_, fun c_24 => ?_⟩
    · have d_25 := iEq c_24
      refine ⟨fun c_26 => ?_, fun c_26 => ?_⟩
      · have d_27 := iEq c_26
        have l_28 : (1953462126 : Int32).toInt = 1953462126 := rfl
        refine y_Model_isWord hok hw ra hR (fun r_29 u_30 u_31 => ⟨r_29, I0, L0, rfl, rfl, ?_⟩)
        have b_32 : 0 ≤ r_29.toInt ∧ r_29.toInt ≤ 1 := u_30.rg
        refine ⟨fun c_33 => ?_, fun c_33 => ?_⟩
        · have d_34 := iEq c_33
          unfold fModel_readLine_123
          unfold fModel_readLine_128
          have l_35 : (1 : Int32).toInt = 1 := rfl
          refine ⟨fun c_36 => ?_, fun c_36 => ?_⟩
          · have d_37 := iEq c_36
            exfalso; omega
          · have d_38 := iNe c_36
            refine y_Model_wrong hok hw ra hz14 hz15 hR (fun I_42 L_43 hR_44 fr_45 kp_46 u_40 u_41 => ⟨I_42, L_43, rfl, rfl, ?_⟩)
            have hf_47 : Fm (fun c => c = o ∨ (o + 6 ≤ c ∧ c < o + 25)) I0 I_42 := hf.call fr_45 (fun c hc => by first | exact hc | (dsimp only at hc ⊢; omega) | omega)
            have t_48 : (I_42 o 3).toInt = (I0 o 3).toInt := by rw [kp_46 3 rfl]
            have g_49 : (0 : Int) ≤ (I_42 o 4).toInt ∧ (I_42 o 4).toInt ≤ 5 := hR_44.at0 ra 4 (by decide)
            have t_50 : (I_42 o 6).toInt = (I0 o 6).toInt := by rw [kp_46 6 rfl]
            have t_51 : (I_42 o 7).toInt = (I0 o 7).toInt := by rw [kp_46 7 rfl]
            have t_52 : (I_42 o 8).toInt = (I0 o 8).toInt := by rw [kp_46 8 rfl]
            have t_53 : (I_42 o 9).toInt = (I0 o 9).toInt := by rw [kp_46 9 rfl]
            have k_54 : MPo I_42 o := hq3.fr (kp_46 8 rfl) (kp_46 9 rfl)
            have k_55 : MTk I_42 o := hq4.fr (kp_46 6 rfl) (kp_46 7 rfl) (kp_46 8 rfl)
            have w_56 : I_42 (o + 6) = I0 (o + 6) := (fr_45 (o + 6) (by first | omega | (dsimp only; omega)))
            have w_57 : I_42 (o + 7) = I0 (o + 7) := (fr_45 (o + 7) (by first | omega | (dsimp only; omega)))
            have w_58 : I_42 (o + 8) = I0 (o + 8) := (fr_45 (o + 8) (by first | omega | (dsimp only; omega)))
            have w_59 : I_42 (o + 9) = I0 (o + 9) := (fr_45 (o + 9) (by first | omega | (dsimp only; omega)))
            refine y_Model_isGood hok hw ra hR_44 (fun r_60 u_61 u_62 u_63 => ⟨r_60, I_42, L_43, rfl, rfl, ?_⟩)
            have b_64 : 0 ≤ r_60.toInt ∧ r_60.toInt ≤ 1 := u_61.rg
            refine ⟨fun c_65 => ?_, fun c_65 => ?_⟩
            · have d_66 := iNe c_65
              have i_67 := u_62 (by omega)
              have gd := u_62 (by omega)
              refine y_Model_next hok hw ra hz16 hz17 hz18 hz19 (by first | omega | (intro h; omega) | exact Or.inl rfl | exact Or.inr rfl) hR_44 (fun I_77 L_78 hR_79 fr_80 kp_81 u_69 u_70 u_71 u_72 u_73 u_74 u_75 u_76 => ⟨I_77, L_78, rfl, rfl, ?_⟩)
              have hf_82 : Fm (fun c => c = o ∨ (o + 6 ≤ c ∧ c < o + 25)) I0 I_77 := hf_47.call fr_80 (fun c hc => by first | exact hc | (dsimp only at hc ⊢; omega) | omega)
              have t_83 : (I_77 o 3).toInt = (I_42 o 3).toInt := by rw [kp_81 3 rfl]
              have t_84 : (I_77 o 4).toInt = (I_42 o 4).toInt := by rw [kp_81 4 rfl]
              have g_85 : (0 : Int) ≤ (I_77 o 6).toInt ∧ (I_77 o 6).toInt ≤ 1600 := hR_79.at0 ra 6 (by decide)
              have g_86 : (0 : Int) ≤ (I_77 o 7).toInt ∧ (I_77 o 7).toInt ≤ 1601 := hR_79.at0 ra 7 (by decide)
              have g_87 : (0 : Int) ≤ (I_77 o 8).toInt ∧ (I_77 o 8).toInt ≤ 6 := hR_79.at0 ra 8 (by decide)
              have w_88 : I_77 (o + 6) = I0 (o + 6) := (fr_80 (o + 6) (by first | omega | (dsimp only; omega))).trans w_56
              have w_89 : I_77 (o + 7) = I0 (o + 7) := (fr_80 (o + 7) (by first | omega | (dsimp only; omega))).trans w_57
              have w_90 : I_77 (o + 8) = I0 (o + 8) := (fr_80 (o + 8) (by first | omega | (dsimp only; omega))).trans w_58
              have w_91 : I_77 (o + 9) = I0 (o + 9) := (fr_80 (o + 9) (by first | omega | (dsimp only; omega))).trans w_59
              have ms := u_72 (by omega)
              refine ⟨fun c_92 => ?_, fun c_92 => ?_⟩
              · have d_93 := iEq c_92
                refine ⟨fun c_94 => ?_, fun c_94 => ?_⟩
                · have d_95 := iEq c_94
                  refine ⟨fun c_96 => ?_, fun c_96 => ?_⟩
                  · have d_97 := iEq c_96
                    refine y_Model_readTown hok hw ra hz14 hz15 hz16 hz17 hz18 hz19 (by first | omega | (intro h; omega) | exact Or.inl rfl | exact Or.inr rfl) (by rw [w_91, hZ _ 35 rfl hR_79]; omega) u_75 u_76 hR_79 (fun I_105 L_106 hR_107 fr_108 kp_109 u_99 u_100 u_101 u_102 u_103 u_104 => ⟨I_105, L_106, rfl, rfl, ?_⟩)
                    have hf_110 : Fm (fun c => c = o ∨ (o + 6 ≤ c ∧ c < o + 25)) I0 I_105 := hf_82.call fr_108 (fun c hc => by first | exact hc | (dsimp only at hc ⊢; omega) | omega)
                    have t_111 : (I_105 o 3).toInt = (I_77 o 3).toInt := by rw [kp_109 3 rfl]
                    have g_112 : (0 : Int) ≤ (I_105 o 4).toInt ∧ (I_105 o 4).toInt ≤ 5 := hR_107.at0 ra 4 (by decide)
                    have g_113 : (0 : Int) ≤ (I_105 o 6).toInt ∧ (I_105 o 6).toInt ≤ 1600 := hR_107.at0 ra 6 (by decide)
                    have g_114 : (0 : Int) ≤ (I_105 o 7).toInt ∧ (I_105 o 7).toInt ≤ 1601 := hR_107.at0 ra 7 (by decide)
                    have g_115 : (0 : Int) ≤ (I_105 o 8).toInt ∧ (I_105 o 8).toInt ≤ 6 := hR_107.at0 ra 8 (by decide)
                    have w_116 : I_105 (o + 6) = I0 (o + 6) := (fr_108 (o + 6) (by first | omega | (dsimp only; omega))).trans w_88
                    have w_117 : I_105 (o + 7) = I0 (o + 7) := (fr_108 (o + 7) (by first | omega | (dsimp only; omega))).trans w_89
                    have w_118 : I_105 (o + 8) = I0 (o + 8) := (fr_108 (o + 8) (by first | omega | (dsimp only; omega))).trans w_90
                    have l_119 : (59 : Int32).toInt = 59 := rfl
                    refine y_Model_is hok hw ra hR_107 (fun r_120 u_121 u_122 u_123 => ⟨r_120, I_105, L_106, rfl, rfl, ?_⟩)
                    have b_124 : 0 ≤ r_120.toInt ∧ r_120.toInt ≤ 1 := u_121.rg
                    refine y_Model_must hok hw ra hz14 hz15 hz16 hz17 hz18 hz19 (by first | omega | (intro h; omega) | exact Or.inl rfl | exact Or.inr rfl) u_103 u_104 hR_107 (fun I_135 L_136 hR_137 fr_138 kp_139 u_126 u_127 u_128 u_129 u_130 u_131 u_132 u_133 u_134 => ⟨I_135, L_136, rfl, rfl, ?_⟩)
                    have hf_140 : Fm (fun c => c = o ∨ (o + 6 ≤ c ∧ c < o + 25)) I0 I_135 := hf_110.call fr_138 (fun c hc => by first | exact hc | (dsimp only at hc ⊢; omega) | omega)
                    have t_141 : (I_135 o 3).toInt = (I_105 o 3).toInt := by rw [kp_139 3 rfl]
                    have g_142 : (0 : Int) ≤ (I_135 o 4).toInt ∧ (I_135 o 4).toInt ≤ 5 := hR_137.at0 ra 4 (by decide)
                    have g_143 : (0 : Int) ≤ (I_135 o 6).toInt ∧ (I_135 o 6).toInt ≤ 1600 := hR_137.at0 ra 6 (by decide)
                    have g_144 : (0 : Int) ≤ (I_135 o 7).toInt ∧ (I_135 o 7).toInt ≤ 1601 := hR_137.at0 ra 7 (by decide)
                    have g_145 : (0 : Int) ≤ (I_135 o 8).toInt ∧ (I_135 o 8).toInt ≤ 6 := hR_137.at0 ra 8 (by decide)
                    have w_146 : I_135 (o + 6) = I0 (o + 6) := (fr_138 (o + 6) (by first | omega | (dsimp only; omega))).trans w_116
                    have w_147 : I_135 (o + 7) = I0 (o + 7) := (fr_138 (o + 7) (by first | omega | (dsimp only; omega))).trans w_117
                    have w_148 : I_135 (o + 8) = I0 (o + 8) := (fr_138 (o + 8) (by first | omega | (dsimp only; omega))).trans w_118
                    exact (hp _ _ hR_137 hf_140 (by first | omega | (intro h; omega) | exact Or.inl rfl | exact Or.inr rfl) (by first | omega | (intro h; omega) | exact Or.inl rfl | exact Or.inr rfl) (by first | omega | (intro h; omega) | exact Or.inl rfl | exact Or.inr rfl) (by first | omega | (intro h; omega) | exact Or.inl rfl | exact Or.inr rfl) (by first | omega | (intro h; omega) | exact Or.inl rfl | exact Or.inr rfl) u_133 u_134)
                  · have d_149 := iNe c_96
                    have i_150 := u_19 (by omega)
                    exfalso; omega
                · have d_151 := iNe c_94
                  have i_152 := u_14 (by omega)
                  exfalso; omega
              · have d_153 := iNe c_92
                have i_154 := u_9 (by omega)
                exfalso; omega
            · have d_155 := iEq c_65
              have i_156 := u_63 (by omega)
              have gb := u_63 (by omega)
              exact (hp _ _ hR_44 hf_47 (by first | omega | (intro h; omega) | exact Or.inl rfl | exact Or.inr rfl) (by first | omega | (intro h; omega) | exact Or.inl rfl | exact Or.inr rfl) (by first | omega | (intro h; omega) | exact Or.inl rfl | exact Or.inr rfl) (by first | omega | (intro h; omega) | exact Or.inl rfl | exact Or.inr rfl) (by first | omega | (intro h; omega) | exact Or.inl rfl | exact Or.inr rfl) k_54 k_55)
        · have d_157 := iNe c_33
          have i_158 := u_31 (by omega)
          have g_159 : (0 : Int) ≤ (I0 o 35).toInt ∧ (I0 o 35).toInt ≤ 1 := hR.at0 ra 35 (by decide)
          refine ⟨tIn (by omega) (by omega), ?_⟩
          have g_160 : (0 : Int) ≤ (I0 (o + 9) ((I0 o 35) : Int32).toNatClampNeg).toInt ∧ (I0 (o + 9) ((I0 o 35) : Int32).toNatClampNeg).toInt ≤ 5 := hR.at ra 9 _ (by decide)
          have l_161 : (5 : Int32).toInt = 5 := rfl
          refine ⟨fun c_162 => ?_, fun c_162 => ?_⟩
          · have d_163 := iNe c_162
            unfold fModel_readLine_128
            refine ⟨fun c_164 => ?_, fun c_164 => ?_⟩
            · have d_165 := iEq c_164
              refine y_Model_isGood hok hw ra hR (fun r_166 u_167 u_168 u_169 => ⟨r_166, I0, L0, rfl, rfl, ?_⟩)
              have b_170 : 0 ≤ r_166.toInt ∧ r_166.toInt ≤ 1 := u_167.rg
              refine ⟨fun c_171 => ?_, fun c_171 => ?_⟩
              · have d_172 := iNe c_171
                have i_173 := u_168 (by omega)
                have gd := u_168 (by omega)
                refine y_Model_next hok hw ra hz16 hz17 hz18 hz19 (by first | omega | (intro h; omega) | exact Or.inl rfl | exact Or.inr rfl) hR (fun I_183 L_184 hR_185 fr_186 kp_187 u_175 u_176 u_177 u_178 u_179 u_180 u_181 u_182 => ⟨I_183, L_184, rfl, rfl, ?_⟩)
                have hf_188 : Fm (fun c => c = o ∨ (o + 6 ≤ c ∧ c < o + 25)) I0 I_183 := hf.call fr_186 (fun c hc => by first | exact hc | (dsimp only at hc ⊢; omega) | omega)
                have t_189 : (I_183 o 3).toInt = (I0 o 3).toInt := by rw [kp_187 3 rfl]
                have t_190 : (I_183 o 4).toInt = (I0 o 4).toInt := by rw [kp_187 4 rfl]
                have g_191 : (0 : Int) ≤ (I_183 o 6).toInt ∧ (I_183 o 6).toInt ≤ 1600 := hR_185.at0 ra 6 (by decide)
                have g_192 : (0 : Int) ≤ (I_183 o 7).toInt ∧ (I_183 o 7).toInt ≤ 1601 := hR_185.at0 ra 7 (by decide)
                have g_193 : (0 : Int) ≤ (I_183 o 8).toInt ∧ (I_183 o 8).toInt ≤ 6 := hR_185.at0 ra 8 (by decide)
                have t_194 : (I_183 o 35).toInt = (I0 o 35).toInt := by rw [kp_187 35 rfl]
                have w_195 : I_183 (o + 6) = I0 (o + 6) := (fr_186 (o + 6) (by first | omega | (dsimp only; omega)))
                have w_196 : I_183 (o + 7) = I0 (o + 7) := (fr_186 (o + 7) (by first | omega | (dsimp only; omega)))
                have w_197 : I_183 (o + 8) = I0 (o + 8) := (fr_186 (o + 8) (by first | omega | (dsimp only; omega)))
                have w_198 : I_183 (o + 9) = I0 (o + 9) := (fr_186 (o + 9) (by first | omega | (dsimp only; omega)))
                have ms := u_178 (by omega)
                refine ⟨fun c_199 => ?_, fun c_199 => ?_⟩
                · have d_200 := iEq c_199
                  refine ⟨fun c_201 => ?_, fun c_201 => ?_⟩
                  · have d_202 := iEq c_201
                    refine ⟨fun c_203 => ?_, fun c_203 => ?_⟩
                    · have d_204 := iEq c_203
                      refine y_Model_readTown hok hw ra hz14 hz15 hz16 hz17 hz18 hz19 (by first | omega | (intro h; omega) | exact Or.inl rfl | exact Or.inr rfl) (by rw [w_198, hZ _ 35 rfl hR_185]; omega) u_181 u_182 hR_185 (fun I_212 L_213 hR_214 fr_215 kp_216 u_206 u_207 u_208 u_209 u_210 u_211 => ⟨I_212, L_213, rfl, rfl, ?_⟩)
                      have hf_217 : Fm (fun c => c = o ∨ (o + 6 ≤ c ∧ c < o + 25)) I0 I_212 := hf_188.call fr_215 (fun c hc => by first | exact hc | (dsimp only at hc ⊢; omega) | omega)
                      have t_218 : (I_212 o 3).toInt = (I_183 o 3).toInt := by rw [kp_216 3 rfl]
                      have g_219 : (0 : Int) ≤ (I_212 o 4).toInt ∧ (I_212 o 4).toInt ≤ 5 := hR_214.at0 ra 4 (by decide)
                      have g_220 : (0 : Int) ≤ (I_212 o 6).toInt ∧ (I_212 o 6).toInt ≤ 1600 := hR_214.at0 ra 6 (by decide)
                      have g_221 : (0 : Int) ≤ (I_212 o 7).toInt ∧ (I_212 o 7).toInt ≤ 1601 := hR_214.at0 ra 7 (by decide)
                      have g_222 : (0 : Int) ≤ (I_212 o 8).toInt ∧ (I_212 o 8).toInt ≤ 6 := hR_214.at0 ra 8 (by decide)
                      have t_223 : (I_212 o 35).toInt = (I_183 o 35).toInt := by rw [kp_216 35 rfl]
                      have w_224 : I_212 (o + 6) = I0 (o + 6) := (fr_215 (o + 6) (by first | omega | (dsimp only; omega))).trans w_195
                      have w_225 : I_212 (o + 7) = I0 (o + 7) := (fr_215 (o + 7) (by first | omega | (dsimp only; omega))).trans w_196
                      have w_226 : I_212 (o + 8) = I0 (o + 8) := (fr_215 (o + 8) (by first | omega | (dsimp only; omega))).trans w_197
                      have l_227 : (59 : Int32).toInt = 59 := rfl
                      refine y_Model_is hok hw ra hR_214 (fun r_228 u_229 u_230 u_231 => ⟨r_228, I_212, L_213, rfl, rfl, ?_⟩)
                      have b_232 : 0 ≤ r_228.toInt ∧ r_228.toInt ≤ 1 := u_229.rg
                      refine y_Model_must hok hw ra hz14 hz15 hz16 hz17 hz18 hz19 (by first | omega | (intro h; omega) | exact Or.inl rfl | exact Or.inr rfl) u_210 u_211 hR_214 (fun I_243 L_244 hR_245 fr_246 kp_247 u_234 u_235 u_236 u_237 u_238 u_239 u_240 u_241 u_242 => ⟨I_243, L_244, rfl, rfl, ?_⟩)
                      have hf_248 : Fm (fun c => c = o ∨ (o + 6 ≤ c ∧ c < o + 25)) I0 I_243 := hf_217.call fr_246 (fun c hc => by first | exact hc | (dsimp only at hc ⊢; omega) | omega)
                      have t_249 : (I_243 o 3).toInt = (I_212 o 3).toInt := by rw [kp_247 3 rfl]
                      have g_250 : (0 : Int) ≤ (I_243 o 4).toInt ∧ (I_243 o 4).toInt ≤ 5 := hR_245.at0 ra 4 (by decide)
                      have g_251 : (0 : Int) ≤ (I_243 o 6).toInt ∧ (I_243 o 6).toInt ≤ 1600 := hR_245.at0 ra 6 (by decide)
                      have g_252 : (0 : Int) ≤ (I_243 o 7).toInt ∧ (I_243 o 7).toInt ≤ 1601 := hR_245.at0 ra 7 (by decide)
                      have g_253 : (0 : Int) ≤ (I_243 o 8).toInt ∧ (I_243 o 8).toInt ≤ 6 := hR_245.at0 ra 8 (by decide)
                      have t_254 : (I_243 o 35).toInt = (I_212 o 35).toInt := by rw [kp_247 35 rfl]
                      have w_255 : I_243 (o + 6) = I0 (o + 6) := (fr_246 (o + 6) (by first | omega | (dsimp only; omega))).trans w_224
                      have w_256 : I_243 (o + 7) = I0 (o + 7) := (fr_246 (o + 7) (by first | omega | (dsimp only; omega))).trans w_225
                      have w_257 : I_243 (o + 8) = I0 (o + 8) := (fr_246 (o + 8) (by first | omega | (dsimp only; omega))).trans w_226
                      exact (hp _ _ hR_245 hf_248 (by first | omega | (intro h; omega) | exact Or.inl rfl | exact Or.inr rfl) (by first | omega | (intro h; omega) | exact Or.inl rfl | exact Or.inr rfl) (by first | omega | (intro h; omega) | exact Or.inl rfl | exact Or.inr rfl) (by first | omega | (intro h; omega) | exact Or.inl rfl | exact Or.inr rfl) (by first | omega | (intro h; omega) | exact Or.inl rfl | exact Or.inr rfl) u_241 u_242)
                    · have d_258 := iNe c_203
                      have i_259 := u_19 (by omega)
                      exfalso; omega
                  · have d_260 := iNe c_201
                    have i_261 := u_14 (by omega)
                    exfalso; omega
                · have d_262 := iNe c_199
                  have i_263 := u_9 (by omega)
                  exfalso; omega
              · have d_264 := iEq c_171
                have i_265 := u_169 (by omega)
                have gb := u_169 (by omega)
                exact (hp _ _ hR hf (by first | omega | (intro h; omega) | exact Or.inl rfl | exact Or.inr rfl) (by first | omega | (intro h; omega) | exact Or.inl rfl | exact Or.inr rfl) (by first | omega | (intro h; omega) | exact Or.inl rfl | exact Or.inr rfl) (by first | omega | (intro h; omega) | exact Or.inl rfl | exact Or.inr rfl) (by first | omega | (intro h; omega) | exact Or.inl rfl | exact Or.inr rfl) hq3 hq4)
            · have d_266 := iNe c_164
              exfalso; omega
          · have d_267 := iEq c_162
            unfold fModel_readLine_123
            unfold fModel_readLine_128
            have l_268 : (1 : Int32).toInt = 1 := rfl
            refine ⟨fun c_269 => ?_, fun c_269 => ?_⟩
            · have d_270 := iEq c_269
              exfalso; omega
            · have d_271 := iNe c_269
              refine y_Model_wrong hok hw ra hz14 hz15 hR (fun I_275 L_276 hR_277 fr_278 kp_279 u_273 u_274 => ⟨I_275, L_276, rfl, rfl, ?_⟩)
              have hf_280 : Fm (fun c => c = o ∨ (o + 6 ≤ c ∧ c < o + 25)) I0 I_275 := hf.call fr_278 (fun c hc => by first | exact hc | (dsimp only at hc ⊢; omega) | omega)
              have t_281 : (I_275 o 3).toInt = (I0 o 3).toInt := by rw [kp_279 3 rfl]
              have g_282 : (0 : Int) ≤ (I_275 o 4).toInt ∧ (I_275 o 4).toInt ≤ 5 := hR_277.at0 ra 4 (by decide)
              have t_283 : (I_275 o 6).toInt = (I0 o 6).toInt := by rw [kp_279 6 rfl]
              have t_284 : (I_275 o 7).toInt = (I0 o 7).toInt := by rw [kp_279 7 rfl]
              have t_285 : (I_275 o 8).toInt = (I0 o 8).toInt := by rw [kp_279 8 rfl]
              have t_286 : (I_275 o 9).toInt = (I0 o 9).toInt := by rw [kp_279 9 rfl]
              have t_287 : (I_275 o 35).toInt = (I0 o 35).toInt := by rw [kp_279 35 rfl]
              have k_288 : MPo I_275 o := hq3.fr (kp_279 8 rfl) (kp_279 9 rfl)
              have k_289 : MTk I_275 o := hq4.fr (kp_279 6 rfl) (kp_279 7 rfl) (kp_279 8 rfl)
              have w_290 : I_275 (o + 6) = I0 (o + 6) := (fr_278 (o + 6) (by first | omega | (dsimp only; omega)))
              have w_291 : I_275 (o + 7) = I0 (o + 7) := (fr_278 (o + 7) (by first | omega | (dsimp only; omega)))
              have w_292 : I_275 (o + 8) = I0 (o + 8) := (fr_278 (o + 8) (by first | omega | (dsimp only; omega)))
              have w_293 : I_275 (o + 9) = I0 (o + 9) := (fr_278 (o + 9) (by first | omega | (dsimp only; omega)))
              refine y_Model_isGood hok hw ra hR_277 (fun r_294 u_295 u_296 u_297 => ⟨r_294, I_275, L_276, rfl, rfl, ?_⟩)
              have b_298 : 0 ≤ r_294.toInt ∧ r_294.toInt ≤ 1 := u_295.rg
              refine ⟨fun c_299 => ?_, fun c_299 => ?_⟩
              · have d_300 := iNe c_299
                have i_301 := u_296 (by omega)
                have gd := u_296 (by omega)
                refine y_Model_next hok hw ra hz16 hz17 hz18 hz19 (by first | omega | (intro h; omega) | exact Or.inl rfl | exact Or.inr rfl) hR_277 (fun I_311 L_312 hR_313 fr_314 kp_315 u_303 u_304 u_305 u_306 u_307 u_308 u_309 u_310 => ⟨I_311, L_312, rfl, rfl, ?_⟩)
                have hf_316 : Fm (fun c => c = o ∨ (o + 6 ≤ c ∧ c < o + 25)) I0 I_311 := hf_280.call fr_314 (fun c hc => by first | exact hc | (dsimp only at hc ⊢; omega) | omega)
                have t_317 : (I_311 o 3).toInt = (I_275 o 3).toInt := by rw [kp_315 3 rfl]
                have t_318 : (I_311 o 4).toInt = (I_275 o 4).toInt := by rw [kp_315 4 rfl]
                have g_319 : (0 : Int) ≤ (I_311 o 6).toInt ∧ (I_311 o 6).toInt ≤ 1600 := hR_313.at0 ra 6 (by decide)
                have g_320 : (0 : Int) ≤ (I_311 o 7).toInt ∧ (I_311 o 7).toInt ≤ 1601 := hR_313.at0 ra 7 (by decide)
                have g_321 : (0 : Int) ≤ (I_311 o 8).toInt ∧ (I_311 o 8).toInt ≤ 6 := hR_313.at0 ra 8 (by decide)
                have t_322 : (I_311 o 35).toInt = (I_275 o 35).toInt := by rw [kp_315 35 rfl]
                have w_323 : I_311 (o + 6) = I0 (o + 6) := (fr_314 (o + 6) (by first | omega | (dsimp only; omega))).trans w_290
                have w_324 : I_311 (o + 7) = I0 (o + 7) := (fr_314 (o + 7) (by first | omega | (dsimp only; omega))).trans w_291
                have w_325 : I_311 (o + 8) = I0 (o + 8) := (fr_314 (o + 8) (by first | omega | (dsimp only; omega))).trans w_292
                have w_326 : I_311 (o + 9) = I0 (o + 9) := (fr_314 (o + 9) (by first | omega | (dsimp only; omega))).trans w_293
                have ms := u_306 (by omega)
                refine ⟨fun c_327 => ?_, fun c_327 => ?_⟩
                · have d_328 := iEq c_327
                  refine ⟨fun c_329 => ?_, fun c_329 => ?_⟩
                  · have d_330 := iEq c_329
                    refine ⟨fun c_331 => ?_, fun c_331 => ?_⟩
                    · have d_332 := iEq c_331
                      refine y_Model_readTown hok hw ra hz14 hz15 hz16 hz17 hz18 hz19 (by first | omega | (intro h; omega) | exact Or.inl rfl | exact Or.inr rfl) (by rw [w_326, hZ _ 35 rfl hR_313]; omega) u_309 u_310 hR_313 (fun I_340 L_341 hR_342 fr_343 kp_344 u_334 u_335 u_336 u_337 u_338 u_339 => ⟨I_340, L_341, rfl, rfl, ?_⟩)
                      have hf_345 : Fm (fun c => c = o ∨ (o + 6 ≤ c ∧ c < o + 25)) I0 I_340 := hf_316.call fr_343 (fun c hc => by first | exact hc | (dsimp only at hc ⊢; omega) | omega)
                      have t_346 : (I_340 o 3).toInt = (I_311 o 3).toInt := by rw [kp_344 3 rfl]
                      have g_347 : (0 : Int) ≤ (I_340 o 4).toInt ∧ (I_340 o 4).toInt ≤ 5 := hR_342.at0 ra 4 (by decide)
                      have g_348 : (0 : Int) ≤ (I_340 o 6).toInt ∧ (I_340 o 6).toInt ≤ 1600 := hR_342.at0 ra 6 (by decide)
                      have g_349 : (0 : Int) ≤ (I_340 o 7).toInt ∧ (I_340 o 7).toInt ≤ 1601 := hR_342.at0 ra 7 (by decide)
                      have g_350 : (0 : Int) ≤ (I_340 o 8).toInt ∧ (I_340 o 8).toInt ≤ 6 := hR_342.at0 ra 8 (by decide)
                      have t_351 : (I_340 o 35).toInt = (I_311 o 35).toInt := by rw [kp_344 35 rfl]
                      have w_352 : I_340 (o + 6) = I0 (o + 6) := (fr_343 (o + 6) (by first | omega | (dsimp only; omega))).trans w_323
                      have w_353 : I_340 (o + 7) = I0 (o + 7) := (fr_343 (o + 7) (by first | omega | (dsimp only; omega))).trans w_324
                      have w_354 : I_340 (o + 8) = I0 (o + 8) := (fr_343 (o + 8) (by first | omega | (dsimp only; omega))).trans w_325
                      have l_355 : (59 : Int32).toInt = 59 := rfl
                      refine y_Model_is hok hw ra hR_342 (fun r_356 u_357 u_358 u_359 => ⟨r_356, I_340, L_341, rfl, rfl, ?_⟩)
                      have b_360 : 0 ≤ r_356.toInt ∧ r_356.toInt ≤ 1 := u_357.rg
                      refine y_Model_must hok hw ra hz14 hz15 hz16 hz17 hz18 hz19 (by first | omega | (intro h; omega) | exact Or.inl rfl | exact Or.inr rfl) u_338 u_339 hR_342 (fun I_371 L_372 hR_373 fr_374 kp_375 u_362 u_363 u_364 u_365 u_366 u_367 u_368 u_369 u_370 => ⟨I_371, L_372, rfl, rfl, ?_⟩)
                      have hf_376 : Fm (fun c => c = o ∨ (o + 6 ≤ c ∧ c < o + 25)) I0 I_371 := hf_345.call fr_374 (fun c hc => by first | exact hc | (dsimp only at hc ⊢; omega) | omega)
                      have t_377 : (I_371 o 3).toInt = (I_340 o 3).toInt := by rw [kp_375 3 rfl]
                      have g_378 : (0 : Int) ≤ (I_371 o 4).toInt ∧ (I_371 o 4).toInt ≤ 5 := hR_373.at0 ra 4 (by decide)
                      have g_379 : (0 : Int) ≤ (I_371 o 6).toInt ∧ (I_371 o 6).toInt ≤ 1600 := hR_373.at0 ra 6 (by decide)
                      have g_380 : (0 : Int) ≤ (I_371 o 7).toInt ∧ (I_371 o 7).toInt ≤ 1601 := hR_373.at0 ra 7 (by decide)
                      have g_381 : (0 : Int) ≤ (I_371 o 8).toInt ∧ (I_371 o 8).toInt ≤ 6 := hR_373.at0 ra 8 (by decide)
                      have t_382 : (I_371 o 35).toInt = (I_340 o 35).toInt := by rw [kp_375 35 rfl]
                      have w_383 : I_371 (o + 6) = I0 (o + 6) := (fr_374 (o + 6) (by first | omega | (dsimp only; omega))).trans w_352
                      have w_384 : I_371 (o + 7) = I0 (o + 7) := (fr_374 (o + 7) (by first | omega | (dsimp only; omega))).trans w_353
                      have w_385 : I_371 (o + 8) = I0 (o + 8) := (fr_374 (o + 8) (by first | omega | (dsimp only; omega))).trans w_354
                      exact (hp _ _ hR_373 hf_376 (by first | omega | (intro h; omega) | exact Or.inl rfl | exact Or.inr rfl) (by first | omega | (intro h; omega) | exact Or.inl rfl | exact Or.inr rfl) (by first | omega | (intro h; omega) | exact Or.inl rfl | exact Or.inr rfl) (by first | omega | (intro h; omega) | exact Or.inl rfl | exact Or.inr rfl) (by first | omega | (intro h; omega) | exact Or.inl rfl | exact Or.inr rfl) u_369 u_370)
                    · have d_386 := iNe c_331
                      have i_387 := u_19 (by omega)
                      exfalso; omega
                  · have d_388 := iNe c_329
                    have i_389 := u_14 (by omega)
                    exfalso; omega
                · have d_390 := iNe c_327
                  have i_391 := u_9 (by omega)
                  exfalso; omega
              · have d_392 := iEq c_299
                have i_393 := u_297 (by omega)
                have gb := u_297 (by omega)
                exact (hp _ _ hR_277 hf_280 (by first | omega | (intro h; omega) | exact Or.inl rfl | exact Or.inr rfl) (by first | omega | (intro h; omega) | exact Or.inl rfl | exact Or.inr rfl) (by first | omega | (intro h; omega) | exact Or.inl rfl | exact Or.inr rfl) (by first | omega | (intro h; omega) | exact Or.inl rfl | exact Or.inr rfl) (by first | omega | (intro h; omega) | exact Or.inl rfl | exact Or.inr rfl) k_288 k_289)
      · have d_394 := iNe c_26
        have i_395 := u_19 (by omega)
        have g_396 : (0 : Int) ≤ (I0 o 35).toInt ∧ (I0 o 35).toInt ≤ 1 := hR.at0 ra 35 (by decide)
        refine ⟨tIn (by omega) (by omega), ?_⟩
        have g_397 : (0 : Int) ≤ (I0 (o + 8) ((I0 o 35) : Int32).toNatClampNeg).toInt ∧ (I0 (o + 8) ((I0 o 35) : Int32).toNatClampNeg).toInt ≤ 3 := hR.at ra 8 _ (by decide)
        have l_398 : (3 : Int32).toInt = 3 := rfl
        refine ⟨fun c_399 => ?_, fun c_399 => ?_⟩
        · have d_400 := iNe c_399
          unfold fModel_readLine_128
          refine ⟨fun c_401 => ?_, fun c_401 => ?_⟩
          · have d_402 := iEq c_401
            refine y_Model_isGood hok hw ra hR (fun r_403 u_404 u_405 u_406 => ⟨r_403, I0, L0, rfl, rfl, ?_⟩)
            have b_407 : 0 ≤ r_403.toInt ∧ r_403.toInt ≤ 1 := u_404.rg
            refine ⟨fun c_408 => ?_, fun c_408 => ?_⟩
            · have d_409 := iNe c_408
              have i_410 := u_405 (by omega)
              have gd := u_405 (by omega)
              refine y_Model_next hok hw ra hz16 hz17 hz18 hz19 (by first | omega | (intro h; omega) | exact Or.inl rfl | exact Or.inr rfl) hR (fun I_420 L_421 hR_422 fr_423 kp_424 u_412 u_413 u_414 u_415 u_416 u_417 u_418 u_419 => ⟨I_420, L_421, rfl, rfl, ?_⟩)
              have hf_425 : Fm (fun c => c = o ∨ (o + 6 ≤ c ∧ c < o + 25)) I0 I_420 := hf.call fr_423 (fun c hc => by first | exact hc | (dsimp only at hc ⊢; omega) | omega)
              have t_426 : (I_420 o 3).toInt = (I0 o 3).toInt := by rw [kp_424 3 rfl]
              have t_427 : (I_420 o 4).toInt = (I0 o 4).toInt := by rw [kp_424 4 rfl]
              have g_428 : (0 : Int) ≤ (I_420 o 6).toInt ∧ (I_420 o 6).toInt ≤ 1600 := hR_422.at0 ra 6 (by decide)
              have g_429 : (0 : Int) ≤ (I_420 o 7).toInt ∧ (I_420 o 7).toInt ≤ 1601 := hR_422.at0 ra 7 (by decide)
              have g_430 : (0 : Int) ≤ (I_420 o 8).toInt ∧ (I_420 o 8).toInt ≤ 6 := hR_422.at0 ra 8 (by decide)
              have t_431 : (I_420 o 35).toInt = (I0 o 35).toInt := by rw [kp_424 35 rfl]
              have w_432 : I_420 (o + 6) = I0 (o + 6) := (fr_423 (o + 6) (by first | omega | (dsimp only; omega)))
              have w_433 : I_420 (o + 7) = I0 (o + 7) := (fr_423 (o + 7) (by first | omega | (dsimp only; omega)))
              have w_434 : I_420 (o + 8) = I0 (o + 8) := (fr_423 (o + 8) (by first | omega | (dsimp only; omega)))
              have w_435 : I_420 (o + 9) = I0 (o + 9) := (fr_423 (o + 9) (by first | omega | (dsimp only; omega)))
              have ms := u_415 (by omega)
              refine ⟨fun c_436 => ?_, fun c_436 => ?_⟩
              · have d_437 := iEq c_436
                refine ⟨fun c_438 => ?_, fun c_438 => ?_⟩
                · have d_439 := iEq c_438
                  refine ⟨fun c_440 => ?_, fun c_440 => ?_⟩
                  · have d_441 := iEq c_440
                    exfalso; omega
                  · have d_442 := iNe c_440
                    have i_443 := u_19 (by omega)
                    refine y_Model_readPan hok hw ra hz14 hz15 hz16 hz17 hz18 hz19 (by first | omega | (intro h; omega) | exact Or.inl rfl | exact Or.inr rfl) (by rw [w_434, hZ _ 35 rfl hR_422]; omega) u_418 u_419 hR_422 (fun I_451 L_452 hR_453 fr_454 kp_455 u_445 u_446 u_447 u_448 u_449 u_450 => ⟨I_451, L_452, rfl, rfl, ?_⟩)
                    have hf_456 : Fm (fun c => c = o ∨ (o + 6 ≤ c ∧ c < o + 25)) I0 I_451 := hf_425.call fr_454 (fun c hc => by first | exact hc | (dsimp only at hc ⊢; omega) | omega)
                    have t_457 : (I_451 o 3).toInt = (I_420 o 3).toInt := by rw [kp_455 3 rfl]
                    have g_458 : (0 : Int) ≤ (I_451 o 4).toInt ∧ (I_451 o 4).toInt ≤ 5 := hR_453.at0 ra 4 (by decide)
                    have g_459 : (0 : Int) ≤ (I_451 o 6).toInt ∧ (I_451 o 6).toInt ≤ 1600 := hR_453.at0 ra 6 (by decide)
                    have g_460 : (0 : Int) ≤ (I_451 o 7).toInt ∧ (I_451 o 7).toInt ≤ 1601 := hR_453.at0 ra 7 (by decide)
                    have g_461 : (0 : Int) ≤ (I_451 o 8).toInt ∧ (I_451 o 8).toInt ≤ 6 := hR_453.at0 ra 8 (by decide)
                    have t_462 : (I_451 o 35).toInt = (I_420 o 35).toInt := by rw [kp_455 35 rfl]
                    have w_463 : I_451 (o + 6) = I0 (o + 6) := (fr_454 (o + 6) (by first | omega | (dsimp only; omega))).trans w_432
                    have w_464 : I_451 (o + 7) = I0 (o + 7) := (fr_454 (o + 7) (by first | omega | (dsimp only; omega))).trans w_433
                    have w_465 : I_451 (o + 9) = I0 (o + 9) := (fr_454 (o + 9) (by first | omega | (dsimp only; omega))).trans w_435
                    have l_466 : (59 : Int32).toInt = 59 := rfl
                    refine y_Model_is hok hw ra hR_453 (fun r_467 u_468 u_469 u_470 => ⟨r_467, I_451, L_452, rfl, rfl, ?_⟩)
                    have b_471 : 0 ≤ r_467.toInt ∧ r_467.toInt ≤ 1 := u_468.rg
                    refine y_Model_must hok hw ra hz14 hz15 hz16 hz17 hz18 hz19 (by first | omega | (intro h; omega) | exact Or.inl rfl | exact Or.inr rfl) u_449 u_450 hR_453 (fun I_482 L_483 hR_484 fr_485 kp_486 u_473 u_474 u_475 u_476 u_477 u_478 u_479 u_480 u_481 => ⟨I_482, L_483, rfl, rfl, ?_⟩)
                    have hf_487 : Fm (fun c => c = o ∨ (o + 6 ≤ c ∧ c < o + 25)) I0 I_482 := hf_456.call fr_485 (fun c hc => by first | exact hc | (dsimp only at hc ⊢; omega) | omega)
                    have t_488 : (I_482 o 3).toInt = (I_451 o 3).toInt := by rw [kp_486 3 rfl]
                    have g_489 : (0 : Int) ≤ (I_482 o 4).toInt ∧ (I_482 o 4).toInt ≤ 5 := hR_484.at0 ra 4 (by decide)
                    have g_490 : (0 : Int) ≤ (I_482 o 6).toInt ∧ (I_482 o 6).toInt ≤ 1600 := hR_484.at0 ra 6 (by decide)
                    have g_491 : (0 : Int) ≤ (I_482 o 7).toInt ∧ (I_482 o 7).toInt ≤ 1601 := hR_484.at0 ra 7 (by decide)
                    have g_492 : (0 : Int) ≤ (I_482 o 8).toInt ∧ (I_482 o 8).toInt ≤ 6 := hR_484.at0 ra 8 (by decide)
                    have t_493 : (I_482 o 35).toInt = (I_451 o 35).toInt := by rw [kp_486 35 rfl]
                    have w_494 : I_482 (o + 6) = I0 (o + 6) := (fr_485 (o + 6) (by first | omega | (dsimp only; omega))).trans w_463
                    have w_495 : I_482 (o + 7) = I0 (o + 7) := (fr_485 (o + 7) (by first | omega | (dsimp only; omega))).trans w_464
                    have w_496 : I_482 (o + 9) = I0 (o + 9) := (fr_485 (o + 9) (by first | omega | (dsimp only; omega))).trans w_465
                    exact (hp _ _ hR_484 hf_487 (by first | omega | (intro h; omega) | exact Or.inl rfl | exact Or.inr rfl) (by first | omega | (intro h; omega) | exact Or.inl rfl | exact Or.inr rfl) (by first | omega | (intro h; omega) | exact Or.inl rfl | exact Or.inr rfl) (by first | omega | (intro h; omega) | exact Or.inl rfl | exact Or.inr rfl) (by first | omega | (intro h; omega) | exact Or.inl rfl | exact Or.inr rfl) u_480 u_481)
                · have d_497 := iNe c_438
                  have i_498 := u_14 (by omega)
                  exfalso; omega
              · have d_499 := iNe c_436
                have i_500 := u_9 (by omega)
                exfalso; omega
            · have d_501 := iEq c_408
              have i_502 := u_406 (by omega)
              have gb := u_406 (by omega)
              exact (hp _ _ hR hf (by first | omega | (intro h; omega) | exact Or.inl rfl | exact Or.inr rfl) (by first | omega | (intro h; omega) | exact Or.inl rfl | exact Or.inr rfl) (by first | omega | (intro h; omega) | exact Or.inl rfl | exact Or.inr rfl) (by first | omega | (intro h; omega) | exact Or.inl rfl | exact Or.inr rfl) (by first | omega | (intro h; omega) | exact Or.inl rfl | exact Or.inr rfl) hq3 hq4)
          · have d_503 := iNe c_401
            exfalso; omega
        · have d_504 := iEq c_399
          unfold fModel_readLine_128
          have l_505 : (1 : Int32).toInt = 1 := rfl
          refine ⟨fun c_506 => ?_, fun c_506 => ?_⟩
          · have d_507 := iEq c_506
            exfalso; omega
          · have d_508 := iNe c_506
            refine y_Model_wrong hok hw ra hz14 hz15 hR (fun I_512 L_513 hR_514 fr_515 kp_516 u_510 u_511 => ⟨I_512, L_513, rfl, rfl, ?_⟩)
            have hf_517 : Fm (fun c => c = o ∨ (o + 6 ≤ c ∧ c < o + 25)) I0 I_512 := hf.call fr_515 (fun c hc => by first | exact hc | (dsimp only at hc ⊢; omega) | omega)
            have t_518 : (I_512 o 3).toInt = (I0 o 3).toInt := by rw [kp_516 3 rfl]
            have g_519 : (0 : Int) ≤ (I_512 o 4).toInt ∧ (I_512 o 4).toInt ≤ 5 := hR_514.at0 ra 4 (by decide)
            have t_520 : (I_512 o 6).toInt = (I0 o 6).toInt := by rw [kp_516 6 rfl]
            have t_521 : (I_512 o 7).toInt = (I0 o 7).toInt := by rw [kp_516 7 rfl]
            have t_522 : (I_512 o 8).toInt = (I0 o 8).toInt := by rw [kp_516 8 rfl]
            have t_523 : (I_512 o 9).toInt = (I0 o 9).toInt := by rw [kp_516 9 rfl]
            have t_524 : (I_512 o 35).toInt = (I0 o 35).toInt := by rw [kp_516 35 rfl]
            have k_525 : MPo I_512 o := hq3.fr (kp_516 8 rfl) (kp_516 9 rfl)
            have k_526 : MTk I_512 o := hq4.fr (kp_516 6 rfl) (kp_516 7 rfl) (kp_516 8 rfl)
            have w_527 : I_512 (o + 6) = I0 (o + 6) := (fr_515 (o + 6) (by first | omega | (dsimp only; omega)))
            have w_528 : I_512 (o + 7) = I0 (o + 7) := (fr_515 (o + 7) (by first | omega | (dsimp only; omega)))
            have w_529 : I_512 (o + 8) = I0 (o + 8) := (fr_515 (o + 8) (by first | omega | (dsimp only; omega)))
            have w_530 : I_512 (o + 9) = I0 (o + 9) := (fr_515 (o + 9) (by first | omega | (dsimp only; omega)))
            refine y_Model_isGood hok hw ra hR_514 (fun r_531 u_532 u_533 u_534 => ⟨r_531, I_512, L_513, rfl, rfl, ?_⟩)
            have b_535 : 0 ≤ r_531.toInt ∧ r_531.toInt ≤ 1 := u_532.rg
            refine ⟨fun c_536 => ?_, fun c_536 => ?_⟩
            · have d_537 := iNe c_536
              have i_538 := u_533 (by omega)
              have gd := u_533 (by omega)
              refine y_Model_next hok hw ra hz16 hz17 hz18 hz19 (by first | omega | (intro h; omega) | exact Or.inl rfl | exact Or.inr rfl) hR_514 (fun I_548 L_549 hR_550 fr_551 kp_552 u_540 u_541 u_542 u_543 u_544 u_545 u_546 u_547 => ⟨I_548, L_549, rfl, rfl, ?_⟩)
              have hf_553 : Fm (fun c => c = o ∨ (o + 6 ≤ c ∧ c < o + 25)) I0 I_548 := hf_517.call fr_551 (fun c hc => by first | exact hc | (dsimp only at hc ⊢; omega) | omega)
              have t_554 : (I_548 o 3).toInt = (I_512 o 3).toInt := by rw [kp_552 3 rfl]
              have t_555 : (I_548 o 4).toInt = (I_512 o 4).toInt := by rw [kp_552 4 rfl]
              have g_556 : (0 : Int) ≤ (I_548 o 6).toInt ∧ (I_548 o 6).toInt ≤ 1600 := hR_550.at0 ra 6 (by decide)
              have g_557 : (0 : Int) ≤ (I_548 o 7).toInt ∧ (I_548 o 7).toInt ≤ 1601 := hR_550.at0 ra 7 (by decide)
              have g_558 : (0 : Int) ≤ (I_548 o 8).toInt ∧ (I_548 o 8).toInt ≤ 6 := hR_550.at0 ra 8 (by decide)
              have t_559 : (I_548 o 35).toInt = (I_512 o 35).toInt := by rw [kp_552 35 rfl]
              have w_560 : I_548 (o + 6) = I0 (o + 6) := (fr_551 (o + 6) (by first | omega | (dsimp only; omega))).trans w_527
              have w_561 : I_548 (o + 7) = I0 (o + 7) := (fr_551 (o + 7) (by first | omega | (dsimp only; omega))).trans w_528
              have w_562 : I_548 (o + 8) = I0 (o + 8) := (fr_551 (o + 8) (by first | omega | (dsimp only; omega))).trans w_529
              have w_563 : I_548 (o + 9) = I0 (o + 9) := (fr_551 (o + 9) (by first | omega | (dsimp only; omega))).trans w_530
              have ms := u_543 (by omega)
              refine ⟨fun c_564 => ?_, fun c_564 => ?_⟩
              · have d_565 := iEq c_564
                refine ⟨fun c_566 => ?_, fun c_566 => ?_⟩
                · have d_567 := iEq c_566
                  refine ⟨fun c_568 => ?_, fun c_568 => ?_⟩
                  · have d_569 := iEq c_568
                    exfalso; omega
                  · have d_570 := iNe c_568
                    have i_571 := u_19 (by omega)
                    refine y_Model_readPan hok hw ra hz14 hz15 hz16 hz17 hz18 hz19 (by first | omega | (intro h; omega) | exact Or.inl rfl | exact Or.inr rfl) (by rw [w_562, hZ _ 35 rfl hR_550]; omega) u_546 u_547 hR_550 (fun I_579 L_580 hR_581 fr_582 kp_583 u_573 u_574 u_575 u_576 u_577 u_578 => ⟨I_579, L_580, rfl, rfl, ?_⟩)
                    have hf_584 : Fm (fun c => c = o ∨ (o + 6 ≤ c ∧ c < o + 25)) I0 I_579 := hf_553.call fr_582 (fun c hc => by first | exact hc | (dsimp only at hc ⊢; omega) | omega)
                    have t_585 : (I_579 o 3).toInt = (I_548 o 3).toInt := by rw [kp_583 3 rfl]
                    have g_586 : (0 : Int) ≤ (I_579 o 4).toInt ∧ (I_579 o 4).toInt ≤ 5 := hR_581.at0 ra 4 (by decide)
                    have g_587 : (0 : Int) ≤ (I_579 o 6).toInt ∧ (I_579 o 6).toInt ≤ 1600 := hR_581.at0 ra 6 (by decide)
                    have g_588 : (0 : Int) ≤ (I_579 o 7).toInt ∧ (I_579 o 7).toInt ≤ 1601 := hR_581.at0 ra 7 (by decide)
                    have g_589 : (0 : Int) ≤ (I_579 o 8).toInt ∧ (I_579 o 8).toInt ≤ 6 := hR_581.at0 ra 8 (by decide)
                    have t_590 : (I_579 o 35).toInt = (I_548 o 35).toInt := by rw [kp_583 35 rfl]
                    have w_591 : I_579 (o + 6) = I0 (o + 6) := (fr_582 (o + 6) (by first | omega | (dsimp only; omega))).trans w_560
                    have w_592 : I_579 (o + 7) = I0 (o + 7) := (fr_582 (o + 7) (by first | omega | (dsimp only; omega))).trans w_561
                    have w_593 : I_579 (o + 9) = I0 (o + 9) := (fr_582 (o + 9) (by first | omega | (dsimp only; omega))).trans w_563
                    have l_594 : (59 : Int32).toInt = 59 := rfl
                    refine y_Model_is hok hw ra hR_581 (fun r_595 u_596 u_597 u_598 => ⟨r_595, I_579, L_580, rfl, rfl, ?_⟩)
                    have b_599 : 0 ≤ r_595.toInt ∧ r_595.toInt ≤ 1 := u_596.rg
                    refine y_Model_must hok hw ra hz14 hz15 hz16 hz17 hz18 hz19 (by first | omega | (intro h; omega) | exact Or.inl rfl | exact Or.inr rfl) u_577 u_578 hR_581 (fun I_610 L_611 hR_612 fr_613 kp_614 u_601 u_602 u_603 u_604 u_605 u_606 u_607 u_608 u_609 => ⟨I_610, L_611, rfl, rfl, ?_⟩)
                    have hf_615 : Fm (fun c => c = o ∨ (o + 6 ≤ c ∧ c < o + 25)) I0 I_610 := hf_584.call fr_613 (fun c hc => by first | exact hc | (dsimp only at hc ⊢; omega) | omega)
                    have t_616 : (I_610 o 3).toInt = (I_579 o 3).toInt := by rw [kp_614 3 rfl]
                    have g_617 : (0 : Int) ≤ (I_610 o 4).toInt ∧ (I_610 o 4).toInt ≤ 5 := hR_612.at0 ra 4 (by decide)
                    have g_618 : (0 : Int) ≤ (I_610 o 6).toInt ∧ (I_610 o 6).toInt ≤ 1600 := hR_612.at0 ra 6 (by decide)
                    have g_619 : (0 : Int) ≤ (I_610 o 7).toInt ∧ (I_610 o 7).toInt ≤ 1601 := hR_612.at0 ra 7 (by decide)
                    have g_620 : (0 : Int) ≤ (I_610 o 8).toInt ∧ (I_610 o 8).toInt ≤ 6 := hR_612.at0 ra 8 (by decide)
                    have t_621 : (I_610 o 35).toInt = (I_579 o 35).toInt := by rw [kp_614 35 rfl]
                    have w_622 : I_610 (o + 6) = I0 (o + 6) := (fr_613 (o + 6) (by first | omega | (dsimp only; omega))).trans w_591
                    have w_623 : I_610 (o + 7) = I0 (o + 7) := (fr_613 (o + 7) (by first | omega | (dsimp only; omega))).trans w_592
                    have w_624 : I_610 (o + 9) = I0 (o + 9) := (fr_613 (o + 9) (by first | omega | (dsimp only; omega))).trans w_593
                    exact (hp _ _ hR_612 hf_615 (by first | omega | (intro h; omega) | exact Or.inl rfl | exact Or.inr rfl) (by first | omega | (intro h; omega) | exact Or.inl rfl | exact Or.inr rfl) (by first | omega | (intro h; omega) | exact Or.inl rfl | exact Or.inr rfl) (by first | omega | (intro h; omega) | exact Or.inl rfl | exact Or.inr rfl) (by first | omega | (intro h; omega) | exact Or.inl rfl | exact Or.inr rfl) u_608 u_609)
                · have d_625 := iNe c_566
                  have i_626 := u_14 (by omega)
                  exfalso; omega
              · have d_627 := iNe c_564
                have i_628 := u_9 (by omega)
                exfalso; omega
            · have d_629 := iEq c_536
              have i_630 := u_534 (by omega)
              have gb := u_534 (by omega)
              exact (hp _ _ hR_514 hf_517 (by first | omega | (intro h; omega) | exact Or.inl rfl | exact Or.inr rfl) (by first | omega | (intro h; omega) | exact Or.inl rfl | exact Or.inr rfl) (by first | omega | (intro h; omega) | exact Or.inl rfl | exact Or.inr rfl) (by first | omega | (intro h; omega) | exact Or.inl rfl | exact Or.inr rfl) (by first | omega | (intro h; omega) | exact Or.inl rfl | exact Or.inr rfl) k_525 k_526)
    · have d_631 := iNe c_24
      have i_632 := u_14 (by omega)
      have g_633 : (0 : Int) ≤ (I0 o 35).toInt ∧ (I0 o 35).toInt ≤ 1 := hR.at0 ra 35 (by decide)
      refine ⟨tIn (by omega) (by omega), ?_⟩
      have g_634 : (0 : Int) ≤ (I0 (o + 7) ((I0 o 35) : Int32).toNatClampNeg).toInt ∧ (I0 (o + 7) ((I0 o 35) : Int32).toNatClampNeg).toInt ≤ 3 := hR.at ra 7 _ (by decide)
      have l_635 : (3 : Int32).toInt = 3 := rfl
      refine ⟨fun c_636 => ?_, fun c_636 => ?_⟩
      · have d_637 := iNe c_636
        unfold fModel_readLine_128
        refine ⟨fun c_638 => ?_, fun c_638 => ?_⟩
        · have d_639 := iEq c_638
          refine y_Model_isGood hok hw ra hR (fun r_640 u_641 u_642 u_643 => ⟨r_640, I0, L0, rfl, rfl, ?_⟩)
          have b_644 : 0 ≤ r_640.toInt ∧ r_640.toInt ≤ 1 := u_641.rg
          refine ⟨fun c_645 => ?_, fun c_645 => ?_⟩
          · have d_646 := iNe c_645
            have i_647 := u_642 (by omega)
            have gd := u_642 (by omega)
            refine y_Model_next hok hw ra hz16 hz17 hz18 hz19 (by first | omega | (intro h; omega) | exact Or.inl rfl | exact Or.inr rfl) hR (fun I_657 L_658 hR_659 fr_660 kp_661 u_649 u_650 u_651 u_652 u_653 u_654 u_655 u_656 => ⟨I_657, L_658, rfl, rfl, ?_⟩)
            have hf_662 : Fm (fun c => c = o ∨ (o + 6 ≤ c ∧ c < o + 25)) I0 I_657 := hf.call fr_660 (fun c hc => by first | exact hc | (dsimp only at hc ⊢; omega) | omega)
            have t_663 : (I_657 o 3).toInt = (I0 o 3).toInt := by rw [kp_661 3 rfl]
            have t_664 : (I_657 o 4).toInt = (I0 o 4).toInt := by rw [kp_661 4 rfl]
            have g_665 : (0 : Int) ≤ (I_657 o 6).toInt ∧ (I_657 o 6).toInt ≤ 1600 := hR_659.at0 ra 6 (by decide)
            have g_666 : (0 : Int) ≤ (I_657 o 7).toInt ∧ (I_657 o 7).toInt ≤ 1601 := hR_659.at0 ra 7 (by decide)
            have g_667 : (0 : Int) ≤ (I_657 o 8).toInt ∧ (I_657 o 8).toInt ≤ 6 := hR_659.at0 ra 8 (by decide)
            have t_668 : (I_657 o 35).toInt = (I0 o 35).toInt := by rw [kp_661 35 rfl]
            have w_669 : I_657 (o + 6) = I0 (o + 6) := (fr_660 (o + 6) (by first | omega | (dsimp only; omega)))
            have w_670 : I_657 (o + 7) = I0 (o + 7) := (fr_660 (o + 7) (by first | omega | (dsimp only; omega)))
            have w_671 : I_657 (o + 8) = I0 (o + 8) := (fr_660 (o + 8) (by first | omega | (dsimp only; omega)))
            have w_672 : I_657 (o + 9) = I0 (o + 9) := (fr_660 (o + 9) (by first | omega | (dsimp only; omega)))
            have ms := u_652 (by omega)
            refine ⟨fun c_673 => ?_, fun c_673 => ?_⟩
            · have d_674 := iEq c_673
              refine ⟨fun c_675 => ?_, fun c_675 => ?_⟩
              · have d_676 := iEq c_675
                exfalso; omega
              · have d_677 := iNe c_675
                have i_678 := u_14 (by omega)
                refine y_Model_readFort hok hw ra hz14 hz15 hz16 hz17 hz18 hz19 (by first | omega | (intro h; omega) | exact Or.inl rfl | exact Or.inr rfl) (by rw [w_670, hZ _ 35 rfl hR_659]; omega) u_655 u_656 hR_659 (fun I_686 L_687 hR_688 fr_689 kp_690 u_680 u_681 u_682 u_683 u_684 u_685 => ⟨I_686, L_687, rfl, rfl, ?_⟩)
                have hf_691 : Fm (fun c => c = o ∨ (o + 6 ≤ c ∧ c < o + 25)) I0 I_686 := hf_662.call fr_689 (fun c hc => by first | exact hc | (dsimp only at hc ⊢; omega) | omega)
                have t_692 : (I_686 o 3).toInt = (I_657 o 3).toInt := by rw [kp_690 3 rfl]
                have g_693 : (0 : Int) ≤ (I_686 o 4).toInt ∧ (I_686 o 4).toInt ≤ 5 := hR_688.at0 ra 4 (by decide)
                have g_694 : (0 : Int) ≤ (I_686 o 6).toInt ∧ (I_686 o 6).toInt ≤ 1600 := hR_688.at0 ra 6 (by decide)
                have g_695 : (0 : Int) ≤ (I_686 o 7).toInt ∧ (I_686 o 7).toInt ≤ 1601 := hR_688.at0 ra 7 (by decide)
                have g_696 : (0 : Int) ≤ (I_686 o 8).toInt ∧ (I_686 o 8).toInt ≤ 6 := hR_688.at0 ra 8 (by decide)
                have t_697 : (I_686 o 35).toInt = (I_657 o 35).toInt := by rw [kp_690 35 rfl]
                have w_698 : I_686 (o + 6) = I0 (o + 6) := (fr_689 (o + 6) (by first | omega | (dsimp only; omega))).trans w_669
                have w_699 : I_686 (o + 8) = I0 (o + 8) := (fr_689 (o + 8) (by first | omega | (dsimp only; omega))).trans w_671
                have w_700 : I_686 (o + 9) = I0 (o + 9) := (fr_689 (o + 9) (by first | omega | (dsimp only; omega))).trans w_672
                have l_701 : (59 : Int32).toInt = 59 := rfl
                refine y_Model_is hok hw ra hR_688 (fun r_702 u_703 u_704 u_705 => ⟨r_702, I_686, L_687, rfl, rfl, ?_⟩)
                have b_706 : 0 ≤ r_702.toInt ∧ r_702.toInt ≤ 1 := u_703.rg
                refine y_Model_must hok hw ra hz14 hz15 hz16 hz17 hz18 hz19 (by first | omega | (intro h; omega) | exact Or.inl rfl | exact Or.inr rfl) u_684 u_685 hR_688 (fun I_717 L_718 hR_719 fr_720 kp_721 u_708 u_709 u_710 u_711 u_712 u_713 u_714 u_715 u_716 => ⟨I_717, L_718, rfl, rfl, ?_⟩)
                have hf_722 : Fm (fun c => c = o ∨ (o + 6 ≤ c ∧ c < o + 25)) I0 I_717 := hf_691.call fr_720 (fun c hc => by first | exact hc | (dsimp only at hc ⊢; omega) | omega)
                have t_723 : (I_717 o 3).toInt = (I_686 o 3).toInt := by rw [kp_721 3 rfl]
                have g_724 : (0 : Int) ≤ (I_717 o 4).toInt ∧ (I_717 o 4).toInt ≤ 5 := hR_719.at0 ra 4 (by decide)
                have g_725 : (0 : Int) ≤ (I_717 o 6).toInt ∧ (I_717 o 6).toInt ≤ 1600 := hR_719.at0 ra 6 (by decide)
                have g_726 : (0 : Int) ≤ (I_717 o 7).toInt ∧ (I_717 o 7).toInt ≤ 1601 := hR_719.at0 ra 7 (by decide)
                have g_727 : (0 : Int) ≤ (I_717 o 8).toInt ∧ (I_717 o 8).toInt ≤ 6 := hR_719.at0 ra 8 (by decide)
                have t_728 : (I_717 o 35).toInt = (I_686 o 35).toInt := by rw [kp_721 35 rfl]
                have w_729 : I_717 (o + 6) = I0 (o + 6) := (fr_720 (o + 6) (by first | omega | (dsimp only; omega))).trans w_698
                have w_730 : I_717 (o + 8) = I0 (o + 8) := (fr_720 (o + 8) (by first | omega | (dsimp only; omega))).trans w_699
                have w_731 : I_717 (o + 9) = I0 (o + 9) := (fr_720 (o + 9) (by first | omega | (dsimp only; omega))).trans w_700
                exact (hp _ _ hR_719 hf_722 (by first | omega | (intro h; omega) | exact Or.inl rfl | exact Or.inr rfl) (by first | omega | (intro h; omega) | exact Or.inl rfl | exact Or.inr rfl) (by first | omega | (intro h; omega) | exact Or.inl rfl | exact Or.inr rfl) (by first | omega | (intro h; omega) | exact Or.inl rfl | exact Or.inr rfl) (by first | omega | (intro h; omega) | exact Or.inl rfl | exact Or.inr rfl) u_715 u_716)
            · have d_732 := iNe c_673
              have i_733 := u_9 (by omega)
              exfalso; omega
          · have d_734 := iEq c_645
            have i_735 := u_643 (by omega)
            have gb := u_643 (by omega)
            exact (hp _ _ hR hf (by first | omega | (intro h; omega) | exact Or.inl rfl | exact Or.inr rfl) (by first | omega | (intro h; omega) | exact Or.inl rfl | exact Or.inr rfl) (by first | omega | (intro h; omega) | exact Or.inl rfl | exact Or.inr rfl) (by first | omega | (intro h; omega) | exact Or.inl rfl | exact Or.inr rfl) (by first | omega | (intro h; omega) | exact Or.inl rfl | exact Or.inr rfl) hq3 hq4)
        · have d_736 := iNe c_638
          exfalso; omega
      · have d_737 := iEq c_636
        unfold fModel_readLine_128
        have l_738 : (1 : Int32).toInt = 1 := rfl
        refine ⟨fun c_739 => ?_, fun c_739 => ?_⟩
        · have d_740 := iEq c_739
          exfalso; omega
        · have d_741 := iNe c_739
          refine y_Model_wrong hok hw ra hz14 hz15 hR (fun I_745 L_746 hR_747 fr_748 kp_749 u_743 u_744 => ⟨I_745, L_746, rfl, rfl, ?_⟩)
          have hf_750 : Fm (fun c => c = o ∨ (o + 6 ≤ c ∧ c < o + 25)) I0 I_745 := hf.call fr_748 (fun c hc => by first | exact hc | (dsimp only at hc ⊢; omega) | omega)
          have t_751 : (I_745 o 3).toInt = (I0 o 3).toInt := by rw [kp_749 3 rfl]
          have g_752 : (0 : Int) ≤ (I_745 o 4).toInt ∧ (I_745 o 4).toInt ≤ 5 := hR_747.at0 ra 4 (by decide)
          have t_753 : (I_745 o 6).toInt = (I0 o 6).toInt := by rw [kp_749 6 rfl]
          have t_754 : (I_745 o 7).toInt = (I0 o 7).toInt := by rw [kp_749 7 rfl]
          have t_755 : (I_745 o 8).toInt = (I0 o 8).toInt := by rw [kp_749 8 rfl]
          have t_756 : (I_745 o 9).toInt = (I0 o 9).toInt := by rw [kp_749 9 rfl]
          have t_757 : (I_745 o 35).toInt = (I0 o 35).toInt := by rw [kp_749 35 rfl]
          have k_758 : MPo I_745 o := hq3.fr (kp_749 8 rfl) (kp_749 9 rfl)
          have k_759 : MTk I_745 o := hq4.fr (kp_749 6 rfl) (kp_749 7 rfl) (kp_749 8 rfl)
          have w_760 : I_745 (o + 6) = I0 (o + 6) := (fr_748 (o + 6) (by first | omega | (dsimp only; omega)))
          have w_761 : I_745 (o + 7) = I0 (o + 7) := (fr_748 (o + 7) (by first | omega | (dsimp only; omega)))
          have w_762 : I_745 (o + 8) = I0 (o + 8) := (fr_748 (o + 8) (by first | omega | (dsimp only; omega)))
          have w_763 : I_745 (o + 9) = I0 (o + 9) := (fr_748 (o + 9) (by first | omega | (dsimp only; omega)))
          refine y_Model_isGood hok hw ra hR_747 (fun r_764 u_765 u_766 u_767 => ⟨r_764, I_745, L_746, rfl, rfl, ?_⟩)
          have b_768 : 0 ≤ r_764.toInt ∧ r_764.toInt ≤ 1 := u_765.rg
          refine ⟨fun c_769 => ?_, fun c_769 => ?_⟩
          · have d_770 := iNe c_769
            have i_771 := u_766 (by omega)
            have gd := u_766 (by omega)
            refine y_Model_next hok hw ra hz16 hz17 hz18 hz19 (by first | omega | (intro h; omega) | exact Or.inl rfl | exact Or.inr rfl) hR_747 (fun I_781 L_782 hR_783 fr_784 kp_785 u_773 u_774 u_775 u_776 u_777 u_778 u_779 u_780 => ⟨I_781, L_782, rfl, rfl, ?_⟩)
            have hf_786 : Fm (fun c => c = o ∨ (o + 6 ≤ c ∧ c < o + 25)) I0 I_781 := hf_750.call fr_784 (fun c hc => by first | exact hc | (dsimp only at hc ⊢; omega) | omega)
            have t_787 : (I_781 o 3).toInt = (I_745 o 3).toInt := by rw [kp_785 3 rfl]
            have t_788 : (I_781 o 4).toInt = (I_745 o 4).toInt := by rw [kp_785 4 rfl]
            have g_789 : (0 : Int) ≤ (I_781 o 6).toInt ∧ (I_781 o 6).toInt ≤ 1600 := hR_783.at0 ra 6 (by decide)
            have g_790 : (0 : Int) ≤ (I_781 o 7).toInt ∧ (I_781 o 7).toInt ≤ 1601 := hR_783.at0 ra 7 (by decide)
            have g_791 : (0 : Int) ≤ (I_781 o 8).toInt ∧ (I_781 o 8).toInt ≤ 6 := hR_783.at0 ra 8 (by decide)
            have t_792 : (I_781 o 35).toInt = (I_745 o 35).toInt := by rw [kp_785 35 rfl]
            have w_793 : I_781 (o + 6) = I0 (o + 6) := (fr_784 (o + 6) (by first | omega | (dsimp only; omega))).trans w_760
            have w_794 : I_781 (o + 7) = I0 (o + 7) := (fr_784 (o + 7) (by first | omega | (dsimp only; omega))).trans w_761
            have w_795 : I_781 (o + 8) = I0 (o + 8) := (fr_784 (o + 8) (by first | omega | (dsimp only; omega))).trans w_762
            have w_796 : I_781 (o + 9) = I0 (o + 9) := (fr_784 (o + 9) (by first | omega | (dsimp only; omega))).trans w_763
            have ms := u_776 (by omega)
            refine ⟨fun c_797 => ?_, fun c_797 => ?_⟩
            · have d_798 := iEq c_797
              refine ⟨fun c_799 => ?_, fun c_799 => ?_⟩
              · have d_800 := iEq c_799
                exfalso; omega
              · have d_801 := iNe c_799
                have i_802 := u_14 (by omega)
                refine y_Model_readFort hok hw ra hz14 hz15 hz16 hz17 hz18 hz19 (by first | omega | (intro h; omega) | exact Or.inl rfl | exact Or.inr rfl) (by rw [w_794, hZ _ 35 rfl hR_783]; omega) u_779 u_780 hR_783 (fun I_810 L_811 hR_812 fr_813 kp_814 u_804 u_805 u_806 u_807 u_808 u_809 => ⟨I_810, L_811, rfl, rfl, ?_⟩)
                have hf_815 : Fm (fun c => c = o ∨ (o + 6 ≤ c ∧ c < o + 25)) I0 I_810 := hf_786.call fr_813 (fun c hc => by first | exact hc | (dsimp only at hc ⊢; omega) | omega)
                have t_816 : (I_810 o 3).toInt = (I_781 o 3).toInt := by rw [kp_814 3 rfl]
                have g_817 : (0 : Int) ≤ (I_810 o 4).toInt ∧ (I_810 o 4).toInt ≤ 5 := hR_812.at0 ra 4 (by decide)
                have g_818 : (0 : Int) ≤ (I_810 o 6).toInt ∧ (I_810 o 6).toInt ≤ 1600 := hR_812.at0 ra 6 (by decide)
                have g_819 : (0 : Int) ≤ (I_810 o 7).toInt ∧ (I_810 o 7).toInt ≤ 1601 := hR_812.at0 ra 7 (by decide)
                have g_820 : (0 : Int) ≤ (I_810 o 8).toInt ∧ (I_810 o 8).toInt ≤ 6 := hR_812.at0 ra 8 (by decide)
                have t_821 : (I_810 o 35).toInt = (I_781 o 35).toInt := by rw [kp_814 35 rfl]
                have w_822 : I_810 (o + 6) = I0 (o + 6) := (fr_813 (o + 6) (by first | omega | (dsimp only; omega))).trans w_793
                have w_823 : I_810 (o + 8) = I0 (o + 8) := (fr_813 (o + 8) (by first | omega | (dsimp only; omega))).trans w_795
                have w_824 : I_810 (o + 9) = I0 (o + 9) := (fr_813 (o + 9) (by first | omega | (dsimp only; omega))).trans w_796
                have l_825 : (59 : Int32).toInt = 59 := rfl
                refine y_Model_is hok hw ra hR_812 (fun r_826 u_827 u_828 u_829 => ⟨r_826, I_810, L_811, rfl, rfl, ?_⟩)
                have b_830 : 0 ≤ r_826.toInt ∧ r_826.toInt ≤ 1 := u_827.rg
                refine y_Model_must hok hw ra hz14 hz15 hz16 hz17 hz18 hz19 (by first | omega | (intro h; omega) | exact Or.inl rfl | exact Or.inr rfl) u_808 u_809 hR_812 (fun I_841 L_842 hR_843 fr_844 kp_845 u_832 u_833 u_834 u_835 u_836 u_837 u_838 u_839 u_840 => ⟨I_841, L_842, rfl, rfl, ?_⟩)
                have hf_846 : Fm (fun c => c = o ∨ (o + 6 ≤ c ∧ c < o + 25)) I0 I_841 := hf_815.call fr_844 (fun c hc => by first | exact hc | (dsimp only at hc ⊢; omega) | omega)
                have t_847 : (I_841 o 3).toInt = (I_810 o 3).toInt := by rw [kp_845 3 rfl]
                have g_848 : (0 : Int) ≤ (I_841 o 4).toInt ∧ (I_841 o 4).toInt ≤ 5 := hR_843.at0 ra 4 (by decide)
                have g_849 : (0 : Int) ≤ (I_841 o 6).toInt ∧ (I_841 o 6).toInt ≤ 1600 := hR_843.at0 ra 6 (by decide)
                have g_850 : (0 : Int) ≤ (I_841 o 7).toInt ∧ (I_841 o 7).toInt ≤ 1601 := hR_843.at0 ra 7 (by decide)
                have g_851 : (0 : Int) ≤ (I_841 o 8).toInt ∧ (I_841 o 8).toInt ≤ 6 := hR_843.at0 ra 8 (by decide)
                have t_852 : (I_841 o 35).toInt = (I_810 o 35).toInt := by rw [kp_845 35 rfl]
                have w_853 : I_841 (o + 6) = I0 (o + 6) := (fr_844 (o + 6) (by first | omega | (dsimp only; omega))).trans w_822
                have w_854 : I_841 (o + 8) = I0 (o + 8) := (fr_844 (o + 8) (by first | omega | (dsimp only; omega))).trans w_823
                have w_855 : I_841 (o + 9) = I0 (o + 9) := (fr_844 (o + 9) (by first | omega | (dsimp only; omega))).trans w_824
                exact (hp _ _ hR_843 hf_846 (by first | omega | (intro h; omega) | exact Or.inl rfl | exact Or.inr rfl) (by first | omega | (intro h; omega) | exact Or.inl rfl | exact Or.inr rfl) (by first | omega | (intro h; omega) | exact Or.inl rfl | exact Or.inr rfl) (by first | omega | (intro h; omega) | exact Or.inl rfl | exact Or.inr rfl) (by first | omega | (intro h; omega) | exact Or.inl rfl | exact Or.inr rfl) u_839 u_840)
            · have d_856 := iNe c_797
              have i_857 := u_9 (by omega)
              exfalso; omega
          · have d_858 := iEq c_769
            have i_859 := u_767 (by omega)
            have gb := u_767 (by omega)
            exact (hp _ _ hR_747 hf_750 (by first | omega | (intro h; omega) | exact Or.inl rfl | exact Or.inr rfl) (by first | omega | (intro h; omega) | exact Or.inl rfl | exact Or.inr rfl) (by first | omega | (intro h; omega) | exact Or.inl rfl | exact Or.inr rfl) (by first | omega | (intro h; omega) | exact Or.inl rfl | exact Or.inr rfl) (by first | omega | (intro h; omega) | exact Or.inl rfl | exact Or.inr rfl) k_758 k_759)
  · have d_860 := iNe c_22
    have i_861 := u_9 (by omega)
    have g_862 : (0 : Int) ≤ (I0 o 35).toInt ∧ (I0 o 35).toInt ≤ 1 := hR.at0 ra 35 (by decide)
    refine ⟨tIn (by omega) (by omega), ?_⟩
    have g_863 : (0 : Int) ≤ (I0 (o + 6) ((I0 o 35) : Int32).toNatClampNeg).toInt ∧ (I0 (o + 6) ((I0 o 35) : Int32).toNatClampNeg).toInt ≤ 24 := hR.at ra 6 _ (by decide)
    have l_864 : (24 : Int32).toInt = 24 := rfl
    refine ⟨fun c_865 => ?_, fun c_865 => ?_⟩
    · have d_866 := iNe c_865
      unfold fModel_readLine_128
      refine ⟨fun c_867 => ?_, fun c_867 => ?_⟩
      · have d_868 := iEq c_867
        refine y_Model_isGood hok hw ra hR (fun r_869 u_870 u_871 u_872 => ⟨r_869, I0, L0, rfl, rfl, ?_⟩)
        have b_873 : 0 ≤ r_869.toInt ∧ r_869.toInt ≤ 1 := u_870.rg
        refine ⟨fun c_874 => ?_, fun c_874 => ?_⟩
        · have d_875 := iNe c_874
          have i_876 := u_871 (by omega)
          have gd := u_871 (by omega)
          refine y_Model_next hok hw ra hz16 hz17 hz18 hz19 (by first | omega | (intro h; omega) | exact Or.inl rfl | exact Or.inr rfl) hR (fun I_886 L_887 hR_888 fr_889 kp_890 u_878 u_879 u_880 u_881 u_882 u_883 u_884 u_885 => ⟨I_886, L_887, rfl, rfl, ?_⟩)
          have hf_891 : Fm (fun c => c = o ∨ (o + 6 ≤ c ∧ c < o + 25)) I0 I_886 := hf.call fr_889 (fun c hc => by first | exact hc | (dsimp only at hc ⊢; omega) | omega)
          have t_892 : (I_886 o 3).toInt = (I0 o 3).toInt := by rw [kp_890 3 rfl]
          have t_893 : (I_886 o 4).toInt = (I0 o 4).toInt := by rw [kp_890 4 rfl]
          have g_894 : (0 : Int) ≤ (I_886 o 6).toInt ∧ (I_886 o 6).toInt ≤ 1600 := hR_888.at0 ra 6 (by decide)
          have g_895 : (0 : Int) ≤ (I_886 o 7).toInt ∧ (I_886 o 7).toInt ≤ 1601 := hR_888.at0 ra 7 (by decide)
          have g_896 : (0 : Int) ≤ (I_886 o 8).toInt ∧ (I_886 o 8).toInt ≤ 6 := hR_888.at0 ra 8 (by decide)
          have t_897 : (I_886 o 35).toInt = (I0 o 35).toInt := by rw [kp_890 35 rfl]
          have w_898 : I_886 (o + 6) = I0 (o + 6) := (fr_889 (o + 6) (by first | omega | (dsimp only; omega)))
          have w_899 : I_886 (o + 7) = I0 (o + 7) := (fr_889 (o + 7) (by first | omega | (dsimp only; omega)))
          have w_900 : I_886 (o + 8) = I0 (o + 8) := (fr_889 (o + 8) (by first | omega | (dsimp only; omega)))
          have w_901 : I_886 (o + 9) = I0 (o + 9) := (fr_889 (o + 9) (by first | omega | (dsimp only; omega)))
          have ms := u_881 (by omega)
          refine ⟨fun c_902 => ?_, fun c_902 => ?_⟩
          · have d_903 := iEq c_902
            exfalso; omega
          · have d_904 := iNe c_902
            have i_905 := u_9 (by omega)
            refine y_Model_readRoad hok hw ra hz14 hz15 hz16 hz17 hz18 hz19 (by first | omega | (intro h; omega) | exact Or.inl rfl | exact Or.inr rfl) (by rw [w_898, hZ _ 35 rfl hR_888]; omega) u_884 u_885 hR_888 (fun I_913 L_914 hR_915 fr_916 kp_917 u_907 u_908 u_909 u_910 u_911 u_912 => ⟨I_913, L_914, rfl, rfl, ?_⟩)
            have hf_918 : Fm (fun c => c = o ∨ (o + 6 ≤ c ∧ c < o + 25)) I0 I_913 := hf_891.call fr_916 (fun c hc => by first | exact hc | (dsimp only at hc ⊢; omega) | omega)
            have t_919 : (I_913 o 3).toInt = (I_886 o 3).toInt := by rw [kp_917 3 rfl]
            have g_920 : (0 : Int) ≤ (I_913 o 4).toInt ∧ (I_913 o 4).toInt ≤ 5 := hR_915.at0 ra 4 (by decide)
            have g_921 : (0 : Int) ≤ (I_913 o 6).toInt ∧ (I_913 o 6).toInt ≤ 1600 := hR_915.at0 ra 6 (by decide)
            have g_922 : (0 : Int) ≤ (I_913 o 7).toInt ∧ (I_913 o 7).toInt ≤ 1601 := hR_915.at0 ra 7 (by decide)
            have g_923 : (0 : Int) ≤ (I_913 o 8).toInt ∧ (I_913 o 8).toInt ≤ 6 := hR_915.at0 ra 8 (by decide)
            have t_924 : (I_913 o 35).toInt = (I_886 o 35).toInt := by rw [kp_917 35 rfl]
            have w_925 : I_913 (o + 7) = I0 (o + 7) := (fr_916 (o + 7) (by first | omega | (dsimp only; omega))).trans w_899
            have w_926 : I_913 (o + 8) = I0 (o + 8) := (fr_916 (o + 8) (by first | omega | (dsimp only; omega))).trans w_900
            have w_927 : I_913 (o + 9) = I0 (o + 9) := (fr_916 (o + 9) (by first | omega | (dsimp only; omega))).trans w_901
            have l_928 : (59 : Int32).toInt = 59 := rfl
            refine y_Model_is hok hw ra hR_915 (fun r_929 u_930 u_931 u_932 => ⟨r_929, I_913, L_914, rfl, rfl, ?_⟩)
            have b_933 : 0 ≤ r_929.toInt ∧ r_929.toInt ≤ 1 := u_930.rg
            refine y_Model_must hok hw ra hz14 hz15 hz16 hz17 hz18 hz19 (by first | omega | (intro h; omega) | exact Or.inl rfl | exact Or.inr rfl) u_911 u_912 hR_915 (fun I_944 L_945 hR_946 fr_947 kp_948 u_935 u_936 u_937 u_938 u_939 u_940 u_941 u_942 u_943 => ⟨I_944, L_945, rfl, rfl, ?_⟩)
            have hf_949 : Fm (fun c => c = o ∨ (o + 6 ≤ c ∧ c < o + 25)) I0 I_944 := hf_918.call fr_947 (fun c hc => by first | exact hc | (dsimp only at hc ⊢; omega) | omega)
            have t_950 : (I_944 o 3).toInt = (I_913 o 3).toInt := by rw [kp_948 3 rfl]
            have g_951 : (0 : Int) ≤ (I_944 o 4).toInt ∧ (I_944 o 4).toInt ≤ 5 := hR_946.at0 ra 4 (by decide)
            have g_952 : (0 : Int) ≤ (I_944 o 6).toInt ∧ (I_944 o 6).toInt ≤ 1600 := hR_946.at0 ra 6 (by decide)
            have g_953 : (0 : Int) ≤ (I_944 o 7).toInt ∧ (I_944 o 7).toInt ≤ 1601 := hR_946.at0 ra 7 (by decide)
            have g_954 : (0 : Int) ≤ (I_944 o 8).toInt ∧ (I_944 o 8).toInt ≤ 6 := hR_946.at0 ra 8 (by decide)
            have t_955 : (I_944 o 35).toInt = (I_913 o 35).toInt := by rw [kp_948 35 rfl]
            have w_956 : I_944 (o + 7) = I0 (o + 7) := (fr_947 (o + 7) (by first | omega | (dsimp only; omega))).trans w_925
            have w_957 : I_944 (o + 8) = I0 (o + 8) := (fr_947 (o + 8) (by first | omega | (dsimp only; omega))).trans w_926
            have w_958 : I_944 (o + 9) = I0 (o + 9) := (fr_947 (o + 9) (by first | omega | (dsimp only; omega))).trans w_927
            exact (hp _ _ hR_946 hf_949 (by first | omega | (intro h; omega) | exact Or.inl rfl | exact Or.inr rfl) (by first | omega | (intro h; omega) | exact Or.inl rfl | exact Or.inr rfl) (by first | omega | (intro h; omega) | exact Or.inl rfl | exact Or.inr rfl) (by first | omega | (intro h; omega) | exact Or.inl rfl | exact Or.inr rfl) (by first | omega | (intro h; omega) | exact Or.inl rfl | exact Or.inr rfl) u_942 u_943)
        · have d_959 := iEq c_874
          have i_960 := u_872 (by omega)
          have gb := u_872 (by omega)
          exact (hp _ _ hR hf (by first | omega | (intro h; omega) | exact Or.inl rfl | exact Or.inr rfl) (by first | omega | (intro h; omega) | exact Or.inl rfl | exact Or.inr rfl) (by first | omega | (intro h; omega) | exact Or.inl rfl | exact Or.inr rfl) (by first | omega | (intro h; omega) | exact Or.inl rfl | exact Or.inr rfl) (by first | omega | (intro h; omega) | exact Or.inl rfl | exact Or.inr rfl) hq3 hq4)
      · have d_961 := iNe c_867
        exfalso; omega
    · have d_962 := iEq c_865
      unfold fModel_readLine_128
      have l_963 : (1 : Int32).toInt = 1 := rfl
      refine ⟨fun c_964 => ?_, fun c_964 => ?_⟩
      · have d_965 := iEq c_964
        exfalso; omega
      · have d_966 := iNe c_964
        refine y_Model_wrong hok hw ra hz14 hz15 hR (fun I_970 L_971 hR_972 fr_973 kp_974 u_968 u_969 => ⟨I_970, L_971, rfl, rfl, ?_⟩)
        have hf_975 : Fm (fun c => c = o ∨ (o + 6 ≤ c ∧ c < o + 25)) I0 I_970 := hf.call fr_973 (fun c hc => by first | exact hc | (dsimp only at hc ⊢; omega) | omega)
        have t_976 : (I_970 o 3).toInt = (I0 o 3).toInt := by rw [kp_974 3 rfl]
        have g_977 : (0 : Int) ≤ (I_970 o 4).toInt ∧ (I_970 o 4).toInt ≤ 5 := hR_972.at0 ra 4 (by decide)
        have t_978 : (I_970 o 6).toInt = (I0 o 6).toInt := by rw [kp_974 6 rfl]
        have t_979 : (I_970 o 7).toInt = (I0 o 7).toInt := by rw [kp_974 7 rfl]
        have t_980 : (I_970 o 8).toInt = (I0 o 8).toInt := by rw [kp_974 8 rfl]
        have t_981 : (I_970 o 9).toInt = (I0 o 9).toInt := by rw [kp_974 9 rfl]
        have t_982 : (I_970 o 35).toInt = (I0 o 35).toInt := by rw [kp_974 35 rfl]
        have k_983 : MPo I_970 o := hq3.fr (kp_974 8 rfl) (kp_974 9 rfl)
        have k_984 : MTk I_970 o := hq4.fr (kp_974 6 rfl) (kp_974 7 rfl) (kp_974 8 rfl)
        have w_985 : I_970 (o + 6) = I0 (o + 6) := (fr_973 (o + 6) (by first | omega | (dsimp only; omega)))
        have w_986 : I_970 (o + 7) = I0 (o + 7) := (fr_973 (o + 7) (by first | omega | (dsimp only; omega)))
        have w_987 : I_970 (o + 8) = I0 (o + 8) := (fr_973 (o + 8) (by first | omega | (dsimp only; omega)))
        have w_988 : I_970 (o + 9) = I0 (o + 9) := (fr_973 (o + 9) (by first | omega | (dsimp only; omega)))
        refine y_Model_isGood hok hw ra hR_972 (fun r_989 u_990 u_991 u_992 => ⟨r_989, I_970, L_971, rfl, rfl, ?_⟩)
        have b_993 : 0 ≤ r_989.toInt ∧ r_989.toInt ≤ 1 := u_990.rg
        refine ⟨fun c_994 => ?_, fun c_994 => ?_⟩
        · have d_995 := iNe c_994
          have i_996 := u_991 (by omega)
          have gd := u_991 (by omega)
          refine y_Model_next hok hw ra hz16 hz17 hz18 hz19 (by first | omega | (intro h; omega) | exact Or.inl rfl | exact Or.inr rfl) hR_972 (fun I_1006 L_1007 hR_1008 fr_1009 kp_1010 u_998 u_999 u_1000 u_1001 u_1002 u_1003 u_1004 u_1005 => ⟨I_1006, L_1007, rfl, rfl, ?_⟩)
          have hf_1011 : Fm (fun c => c = o ∨ (o + 6 ≤ c ∧ c < o + 25)) I0 I_1006 := hf_975.call fr_1009 (fun c hc => by first | exact hc | (dsimp only at hc ⊢; omega) | omega)
          have t_1012 : (I_1006 o 3).toInt = (I_970 o 3).toInt := by rw [kp_1010 3 rfl]
          have t_1013 : (I_1006 o 4).toInt = (I_970 o 4).toInt := by rw [kp_1010 4 rfl]
          have g_1014 : (0 : Int) ≤ (I_1006 o 6).toInt ∧ (I_1006 o 6).toInt ≤ 1600 := hR_1008.at0 ra 6 (by decide)
          have g_1015 : (0 : Int) ≤ (I_1006 o 7).toInt ∧ (I_1006 o 7).toInt ≤ 1601 := hR_1008.at0 ra 7 (by decide)
          have g_1016 : (0 : Int) ≤ (I_1006 o 8).toInt ∧ (I_1006 o 8).toInt ≤ 6 := hR_1008.at0 ra 8 (by decide)
          have t_1017 : (I_1006 o 35).toInt = (I_970 o 35).toInt := by rw [kp_1010 35 rfl]
          have w_1018 : I_1006 (o + 6) = I0 (o + 6) := (fr_1009 (o + 6) (by first | omega | (dsimp only; omega))).trans w_985
          have w_1019 : I_1006 (o + 7) = I0 (o + 7) := (fr_1009 (o + 7) (by first | omega | (dsimp only; omega))).trans w_986
          have w_1020 : I_1006 (o + 8) = I0 (o + 8) := (fr_1009 (o + 8) (by first | omega | (dsimp only; omega))).trans w_987
          have w_1021 : I_1006 (o + 9) = I0 (o + 9) := (fr_1009 (o + 9) (by first | omega | (dsimp only; omega))).trans w_988
          have ms := u_1001 (by omega)
          refine ⟨fun c_1022 => ?_, fun c_1022 => ?_⟩
          · have d_1023 := iEq c_1022
            exfalso; omega
          · have d_1024 := iNe c_1022
            have i_1025 := u_9 (by omega)
            refine y_Model_readRoad hok hw ra hz14 hz15 hz16 hz17 hz18 hz19 (by first | omega | (intro h; omega) | exact Or.inl rfl | exact Or.inr rfl) (by rw [w_1018, hZ _ 35 rfl hR_1008]; omega) u_1004 u_1005 hR_1008 (fun I_1033 L_1034 hR_1035 fr_1036 kp_1037 u_1027 u_1028 u_1029 u_1030 u_1031 u_1032 => ⟨I_1033, L_1034, rfl, rfl, ?_⟩)
            have hf_1038 : Fm (fun c => c = o ∨ (o + 6 ≤ c ∧ c < o + 25)) I0 I_1033 := hf_1011.call fr_1036 (fun c hc => by first | exact hc | (dsimp only at hc ⊢; omega) | omega)
            have t_1039 : (I_1033 o 3).toInt = (I_1006 o 3).toInt := by rw [kp_1037 3 rfl]
            have g_1040 : (0 : Int) ≤ (I_1033 o 4).toInt ∧ (I_1033 o 4).toInt ≤ 5 := hR_1035.at0 ra 4 (by decide)
            have g_1041 : (0 : Int) ≤ (I_1033 o 6).toInt ∧ (I_1033 o 6).toInt ≤ 1600 := hR_1035.at0 ra 6 (by decide)
            have g_1042 : (0 : Int) ≤ (I_1033 o 7).toInt ∧ (I_1033 o 7).toInt ≤ 1601 := hR_1035.at0 ra 7 (by decide)
            have g_1043 : (0 : Int) ≤ (I_1033 o 8).toInt ∧ (I_1033 o 8).toInt ≤ 6 := hR_1035.at0 ra 8 (by decide)
            have t_1044 : (I_1033 o 35).toInt = (I_1006 o 35).toInt := by rw [kp_1037 35 rfl]
            have w_1045 : I_1033 (o + 7) = I0 (o + 7) := (fr_1036 (o + 7) (by first | omega | (dsimp only; omega))).trans w_1019
            have w_1046 : I_1033 (o + 8) = I0 (o + 8) := (fr_1036 (o + 8) (by first | omega | (dsimp only; omega))).trans w_1020
            have w_1047 : I_1033 (o + 9) = I0 (o + 9) := (fr_1036 (o + 9) (by first | omega | (dsimp only; omega))).trans w_1021
            have l_1048 : (59 : Int32).toInt = 59 := rfl
            refine y_Model_is hok hw ra hR_1035 (fun r_1049 u_1050 u_1051 u_1052 => ⟨r_1049, I_1033, L_1034, rfl, rfl, ?_⟩)
            have b_1053 : 0 ≤ r_1049.toInt ∧ r_1049.toInt ≤ 1 := u_1050.rg
            refine y_Model_must hok hw ra hz14 hz15 hz16 hz17 hz18 hz19 (by first | omega | (intro h; omega) | exact Or.inl rfl | exact Or.inr rfl) u_1031 u_1032 hR_1035 (fun I_1064 L_1065 hR_1066 fr_1067 kp_1068 u_1055 u_1056 u_1057 u_1058 u_1059 u_1060 u_1061 u_1062 u_1063 => ⟨I_1064, L_1065, rfl, rfl, ?_⟩)
            have hf_1069 : Fm (fun c => c = o ∨ (o + 6 ≤ c ∧ c < o + 25)) I0 I_1064 := hf_1038.call fr_1067 (fun c hc => by first | exact hc | (dsimp only at hc ⊢; omega) | omega)
            have t_1070 : (I_1064 o 3).toInt = (I_1033 o 3).toInt := by rw [kp_1068 3 rfl]
            have g_1071 : (0 : Int) ≤ (I_1064 o 4).toInt ∧ (I_1064 o 4).toInt ≤ 5 := hR_1066.at0 ra 4 (by decide)
            have g_1072 : (0 : Int) ≤ (I_1064 o 6).toInt ∧ (I_1064 o 6).toInt ≤ 1600 := hR_1066.at0 ra 6 (by decide)
            have g_1073 : (0 : Int) ≤ (I_1064 o 7).toInt ∧ (I_1064 o 7).toInt ≤ 1601 := hR_1066.at0 ra 7 (by decide)
            have g_1074 : (0 : Int) ≤ (I_1064 o 8).toInt ∧ (I_1064 o 8).toInt ≤ 6 := hR_1066.at0 ra 8 (by decide)
            have t_1075 : (I_1064 o 35).toInt = (I_1033 o 35).toInt := by rw [kp_1068 35 rfl]
            have w_1076 : I_1064 (o + 7) = I0 (o + 7) := (fr_1067 (o + 7) (by first | omega | (dsimp only; omega))).trans w_1045
            have w_1077 : I_1064 (o + 8) = I0 (o + 8) := (fr_1067 (o + 8) (by first | omega | (dsimp only; omega))).trans w_1046
            have w_1078 : I_1064 (o + 9) = I0 (o + 9) := (fr_1067 (o + 9) (by first | omega | (dsimp only; omega))).trans w_1047
            exact (hp _ _ hR_1066 hf_1069 (by first | omega | (intro h; omega) | exact Or.inl rfl | exact Or.inr rfl) (by first | omega | (intro h; omega) | exact Or.inl rfl | exact Or.inr rfl) (by first | omega | (intro h; omega) | exact Or.inl rfl | exact Or.inr rfl) (by first | omega | (intro h; omega) | exact Or.inl rfl | exact Or.inr rfl) (by first | omega | (intro h; omega) | exact Or.inl rfl | exact Or.inr rfl) u_1062 u_1063)
        · have d_1079 := iEq c_994
          have i_1080 := u_992 (by omega)
          have gb := u_992 (by omega)
          exact (hp _ _ hR_972 hf_975 (by first | omega | (intro h; omega) | exact Or.inl rfl | exact Or.inr rfl) (by first | omega | (intro h; omega) | exact Or.inl rfl | exact Or.inr rfl) (by first | omega | (intro h; omega) | exact Or.inl rfl | exact Or.inr rfl) (by first | omega | (intro h; omega) | exact Or.inl rfl | exact Or.inr rfl) (by first | omega | (intro h; omega) | exact Or.inl rfl | exact Or.inr rfl) k_983 k_984)
theorem y_Model_readLine {D : va_G} {cA : FieldType → ClassId} {b : Nat} {E : State → Prop} {R : qRg} {o n : Nat} {sh : Nat → qC} {Rf : Nat → Nat → Option Nat} {I0 : Nat → Nat → Int32} {L0 : Nat → Nat → Int64} {post : Option Value → qS → Prop} (hok : q_ok (qGG D cA b E)) (hw : WfModel (qGG D cA b E) n sh Rf o) (ra : RAModel R o) (hz14 : R.2 14 = true) (hz15 : R.2 15 = true) (hz16 : R.2 16 = true) (hz17 : R.2 17 = true) (hz18 : R.2 18 = true) (hz19 : R.2 19 = true) (hq0 : (I0 o 7).toInt ≤ (I0 o 3).toInt) (hq1 : (I0 o 4).toInt = 0) (hq2 : (I0 o 8).toInt ≠ 0) (hq3 : MPo I0 o) (hq4 : MTk I0 o) (hR : RI R I0) (hp : ∀ (I' : Nat → Nat → Int32) (L' : Nat → Nat → Int64), RI R I' → Fm (fun c => c = o ∨ (o + 6 ≤ c ∧ c < o + 25)) I0 I' → Kp wModel_readLine I0 I' o → ((I' o 7).toInt ≤ (I' o 3).toInt) → ((I0 o 7).toInt ≤ (I' o 7).toInt) → ((I0 o 4).toInt ≤ (I' o 4).toInt) → (7 * (I0 o 7).toInt - (I0 o 8).toInt + (I0 o 4).toInt ≤ 7 * (I' o 7).toInt - (I' o 8).toInt + (I' o 4).toInt) → (7 * (I0 o 7).toInt - (I0 o 8).toInt + (I0 o 4).toInt < 7 * (I' o 7).toInt - (I' o 8).toInt + (I' o 4).toInt) → (MPo I' o) → (MTk I' o) → post none (n, sh, Rf, I', L')) : Ev (qGG D cA b E) mModel_readLine 6 (0, 0) 0 (lv_args 0 [.ref o]) [] (n, sh, Rf, I0, L0) post :=
  yc_Model_readLine (R := fzR R I0 o wModel_readLine) hok hw (fzA ra hR _) (fzT hz14 rfl) (fzT hz15 rfl) (fzT hz16 rfl) (fzT hz17 rfl) (fzT hz18 rfl) (fzT hz19 rfl) fzZ (fzI hR) hq0 hq1 hq2 hq3 hq4 (fzI hR) (fun I' L' h1 h2 u0 u1 u2 u3 u4 u5 u6 => hp I' L' (fzB hR h1) h2 (fzP h1) u0 u1 u2 u3 u4 u5 u6)
