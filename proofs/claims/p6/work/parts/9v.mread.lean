/-! Safety of the reference, numeral and newName: by program (spec.py). -/
def wModel_numeral : Nat → Bool := fun j => Nat.beq j 14 || Nat.beq j 15 || Nat.beq j 16 || Nat.beq j 17 || Nat.beq j 18 || Nat.beq j 19 || false
set_option maxHeartbeats 4000000 in
set_option maxRecDepth 20000 in
theorem yc_Model_numeral {D : va_G} {cA : FieldType → ClassId} {b : Nat} {E : State → Prop} {R : qRg} {o n : Nat} {sh : Nat → qC} {Rf : Nat → Nat → Option Nat} {I0 : Nat → Nat → Int32} {L0 : Nat → Nat → Int64} {post : Option Value → qS → Prop} {p1 : Int32} {p2 : Int32} (hok : q_ok (qGG D cA b E)) (hw : WfModel (qGG D cA b E) n sh Rf o) (ra : RAModel R o) (hz14 : R.2 14 = true) (hz15 : R.2 15 = true) (hz16 : R.2 16 = true) (hz17 : R.2 17 = true) (hz18 : R.2 18 = true) (hz19 : R.2 19 = true) (hZ : Fz R I0 o wModel_numeral) (hR0 : RI R I0) (hq0 : (I0 o 7).toInt ≤ (I0 o 3).toInt) (hq1 : MPo I0 o) (hq2 : MTk I0 o) (hR : RI R I0) (hp : ∀ (r : Int32) (I' : Nat → Nat → Int32) (L' : Nat → Nat → Int64), RI R I' → Fm (fun c => c = o) I0 I' → ((I' o 7).toInt ≤ (I' o 3).toInt) → ((I0 o 7).toInt ≤ (I' o 7).toInt) → ((I0 o 4).toInt ≤ (I' o 4).toInt) → (7 * (I0 o 7).toInt - (I0 o 8).toInt + (I0 o 4).toInt ≤ 7 * (I' o 7).toInt - (I' o 8).toInt + (I' o 4).toInt) → (Im ((I0 o 4).toInt = 0) (7 * (I0 o 7).toInt - (I0 o 8).toInt + (I0 o 4).toInt < 7 * (I' o 7).toInt - (I' o 8).toInt + (I' o 4).toInt)) → (MPo I' o) → (MTk I' o) → post (some (.int r)) (n, sh, Rf, I', L')) : Ev (qGG D cA b E) mModel_numeral 3 (0, 0) 0 (lv_args 0 [.ref o, .int p1, .int p2]) [] (n, sh, Rf, I0, L0) post := by
  have hf : Fm (fun c => c = o) I0 I0 := Fm.rf
  have g_1 : (0 : Int) ≤ (I0 o 3).toInt ∧ (I0 o 3).toInt ≤ 1600 := hR.at0 ra 3 (by decide)
  have g_2 : (0 : Int) ≤ (I0 o 4).toInt ∧ (I0 o 4).toInt ≤ 5 := hR.at0 ra 4 (by decide)
  have g_3 : (0 : Int) ≤ (I0 o 6).toInt ∧ (I0 o 6).toInt ≤ 1600 := hR.at0 ra 6 (by decide)
  have g_4 : (0 : Int) ≤ (I0 o 7).toInt ∧ (I0 o 7).toInt ≤ 1601 := hR.at0 ra 7 (by decide)
  have g_5 : (0 : Int) ≤ (I0 o 8).toInt ∧ (I0 o 8).toInt ≤ 6 := hR.at0 ra 8 (by decide)
  refine sModel_numeral_0 o n sh Rf I0 L0 post p1 p2 hok hw ?_
  unfold fModel_numeral_0
  refine y_Model_isGood hok hw ra hR (fun r_6 u_7 u_8 u_9 => ⟨r_6, I0, L0, rfl, rfl, ?_⟩)
  have b_10 : 0 ≤ r_6.toInt ∧ r_6.toInt ≤ 1 := u_7.rg
  have l_11 : (0 : Int32).toInt = 0 := rfl
  refine ⟨fun c_12 => ?_, fun c_12 => ?_⟩
  · have d_13 := iNe c_12
    have i_14 := u_8 (by omega)
    have gd := u_8 (by omega)
    have g_15 : (0 : Int) ≤ (I0 o 8).toInt ∧ (I0 o 8).toInt ≤ 6 := hR.at0 ra 8 (by decide)
    have l_16 : (4 : Int32).toInt = 4 := rfl
    refine ⟨fun c_17 => ?_, fun c_17 => ?_⟩
    · have d_18 := iEq c_17
      unfold fModel_numeral_21
      refine y_Model_isGood hok hw ra hR (fun r_19 u_20 u_21 u_22 => ⟨r_19, I0, L0, rfl, rfl, ?_⟩)
      have b_23 : 0 ≤ r_19.toInt ∧ r_19.toInt ≤ 1 := u_20.rg
      refine ⟨fun c_24 => ?_, fun c_24 => ?_⟩
      · have d_25 := iEq c_24
        have i_26 := u_22 (by omega)
        unfold fModel_numeral_53
        refine y_Model_isGood hok hw ra hR (fun r_27 u_28 u_29 u_30 => ⟨r_27, I0, L0, rfl, rfl, ?_⟩)
        have b_31 : 0 ≤ r_27.toInt ∧ r_27.toInt ≤ 1 := u_28.rg
        refine ⟨fun c_32 => ?_, fun c_32 => ?_⟩
        · have d_33 := iEq c_32
          have i_34 := u_30 (by omega)
          unfold fModel_numeral_69
          refine y_Model_isGood hok hw ra hR (fun r_35 u_36 u_37 u_38 => ⟨r_35, I0, L0, rfl, rfl, ?_⟩)
          have b_39 : 0 ≤ r_35.toInt ∧ r_35.toInt ≤ 1 := u_36.rg
          refine ⟨fun c_40 => ?_, fun c_40 => ?_⟩
          · have d_41 := iEq c_40
            have i_42 := u_38 (by omega)
            exact (hp _ _ _ hR hf (by first | omega | (intro h; omega) | exact Or.inl rfl | exact Or.inr rfl) (by first | omega | (intro h; omega) | exact Or.inl rfl | exact Or.inr rfl) (by first | omega | (intro h; omega) | exact Or.inl rfl | exact Or.inr rfl) (by first | omega | (intro h; omega) | exact Or.inl rfl | exact Or.inr rfl) (by first | (intro _; omega) | (intro _; have ms := False.elim (by omega); omega)) hq1 hq2)
          · have d_43 := iNe c_40
            have i_44 := u_37 (by omega)
            exact (hp _ _ _ hR hf (by first | omega | (intro h; omega) | exact Or.inl rfl | exact Or.inr rfl) (by first | omega | (intro h; omega) | exact Or.inl rfl | exact Or.inr rfl) (by first | omega | (intro h; omega) | exact Or.inl rfl | exact Or.inr rfl) (by first | omega | (intro h; omega) | exact Or.inl rfl | exact Or.inr rfl) (by first | (intro _; omega) | (intro _; have ms := False.elim (by omega); omega)) hq1 hq2)
        · have d_45 := iNe c_32
          have i_46 := u_29 (by omega)
          refine y_Model_next hok hw ra hz16 hz17 hz18 hz19 (by first | omega | (intro h; omega) | exact Or.inl rfl | exact Or.inr rfl) hR (fun I_56 L_57 hR_58 fr_59 kp_60 u_48 u_49 u_50 u_51 u_52 u_53 u_54 u_55 => ⟨I_56, L_57, rfl, rfl, ?_⟩)
          have hf_61 : Fm (fun c => c = o) I0 I_56 := hf.call fr_59 (fun c hc => by first | exact hc | (dsimp only at hc ⊢; omega) | omega)
          have t_62 : (I_56 o 3).toInt = (I0 o 3).toInt := by rw [kp_60 3 rfl]
          have t_63 : (I_56 o 4).toInt = (I0 o 4).toInt := by rw [kp_60 4 rfl]
          have g_64 : (0 : Int) ≤ (I_56 o 6).toInt ∧ (I_56 o 6).toInt ≤ 1600 := hR_58.at0 ra 6 (by decide)
          have g_65 : (0 : Int) ≤ (I_56 o 7).toInt ∧ (I_56 o 7).toInt ≤ 1601 := hR_58.at0 ra 7 (by decide)
          have g_66 : (0 : Int) ≤ (I_56 o 8).toInt ∧ (I_56 o 8).toInt ≤ 6 := hR_58.at0 ra 8 (by decide)
          unfold fModel_numeral_69
          refine y_Model_isGood hok hw ra hR_58 (fun r_67 u_68 u_69 u_70 => ⟨r_67, I_56, L_57, rfl, rfl, ?_⟩)
          have b_71 : 0 ≤ r_67.toInt ∧ r_67.toInt ≤ 1 := u_68.rg
          refine ⟨fun c_72 => ?_, fun c_72 => ?_⟩
          · have d_73 := iEq c_72
            have i_74 := u_70 (by omega)
            exact (hp _ _ _ hR_58 hf_61 (by first | omega | (intro h; omega) | exact Or.inl rfl | exact Or.inr rfl) (by first | omega | (intro h; omega) | exact Or.inl rfl | exact Or.inr rfl) (by first | omega | (intro h; omega) | exact Or.inl rfl | exact Or.inr rfl) (by first | omega | (intro h; omega) | exact Or.inl rfl | exact Or.inr rfl) (by first | (intro _; omega) | (intro _; have ms := u_51 (by omega); omega)) u_54 u_55)
          · have d_75 := iNe c_72
            have i_76 := u_69 (by omega)
            exact (hp _ _ _ hR_58 hf_61 (by first | omega | (intro h; omega) | exact Or.inl rfl | exact Or.inr rfl) (by first | omega | (intro h; omega) | exact Or.inl rfl | exact Or.inr rfl) (by first | omega | (intro h; omega) | exact Or.inl rfl | exact Or.inr rfl) (by first | omega | (intro h; omega) | exact Or.inl rfl | exact Or.inr rfl) (by first | (intro _; omega) | (intro _; have ms := u_51 (by omega); omega)) u_54 u_55)
      · have d_77 := iNe c_24
        have i_78 := u_21 (by omega)
        refine ⟨fun c_79 => ?_, fun c_79 => ?_⟩
        · have d_80 := iLt c_79
          unfold fModel_numeral_44
          have g_81 : (0 : Int) ≤ (I0 o 6).toInt ∧ (I0 o 6).toInt ≤ 1600 := hR.at0 ra 6 (by decide)
          refine y_Model_fails hok hw ra hz14 hz15 (by first | omega | (intro h; omega) | exact Or.inl rfl | exact Or.inr rfl) hR (fun I_85 L_86 hR_87 fr_88 kp_89 u_83 u_84 => ⟨I_85, L_86, rfl, rfl, ?_⟩)
          have hf_90 : Fm (fun c => c = o) I0 I_85 := hf.call fr_88 (fun c hc => by first | exact hc | (dsimp only at hc ⊢; omega) | omega)
          have t_91 : (I_85 o 3).toInt = (I0 o 3).toInt := by rw [kp_89 3 rfl]
          have g_92 : (0 : Int) ≤ (I_85 o 4).toInt ∧ (I_85 o 4).toInt ≤ 5 := hR_87.at0 ra 4 (by decide)
          have t_93 : (I_85 o 6).toInt = (I0 o 6).toInt := by rw [kp_89 6 rfl]
          have t_94 : (I_85 o 7).toInt = (I0 o 7).toInt := by rw [kp_89 7 rfl]
          have t_95 : (I_85 o 8).toInt = (I0 o 8).toInt := by rw [kp_89 8 rfl]
          have t_96 : (I_85 o 9).toInt = (I0 o 9).toInt := by rw [kp_89 9 rfl]
          have k_97 : MPo I_85 o := hq1.fr (kp_89 8 rfl) (kp_89 9 rfl)
          have k_98 : MTk I_85 o := hq2.fr (kp_89 6 rfl) (kp_89 7 rfl) (kp_89 8 rfl)
          unfold fModel_numeral_53
          refine y_Model_isGood hok hw ra hR_87 (fun r_99 u_100 u_101 u_102 => ⟨r_99, I_85, L_86, rfl, rfl, ?_⟩)
          have b_103 : 0 ≤ r_99.toInt ∧ r_99.toInt ≤ 1 := u_100.rg
          refine ⟨fun c_104 => ?_, fun c_104 => ?_⟩
          · have d_105 := iEq c_104
            have i_106 := u_102 (by omega)
            unfold fModel_numeral_69
            refine y_Model_isGood hok hw ra hR_87 (fun r_107 u_108 u_109 u_110 => ⟨r_107, I_85, L_86, rfl, rfl, ?_⟩)
            have b_111 : 0 ≤ r_107.toInt ∧ r_107.toInt ≤ 1 := u_108.rg
            refine ⟨fun c_112 => ?_, fun c_112 => ?_⟩
            · have d_113 := iEq c_112
              have i_114 := u_110 (by omega)
              exact (hp _ _ _ hR_87 hf_90 (by first | omega | (intro h; omega) | exact Or.inl rfl | exact Or.inr rfl) (by first | omega | (intro h; omega) | exact Or.inl rfl | exact Or.inr rfl) (by first | omega | (intro h; omega) | exact Or.inl rfl | exact Or.inr rfl) (by first | omega | (intro h; omega) | exact Or.inl rfl | exact Or.inr rfl) (by first | (intro _; omega) | (intro _; have ms := False.elim (by omega); omega)) k_97 k_98)
            · have d_115 := iNe c_112
              have i_116 := u_109 (by omega)
              exact (hp _ _ _ hR_87 hf_90 (by first | omega | (intro h; omega) | exact Or.inl rfl | exact Or.inr rfl) (by first | omega | (intro h; omega) | exact Or.inl rfl | exact Or.inr rfl) (by first | omega | (intro h; omega) | exact Or.inl rfl | exact Or.inr rfl) (by first | omega | (intro h; omega) | exact Or.inl rfl | exact Or.inr rfl) (by first | (intro _; omega) | (intro _; have ms := False.elim (by omega); omega)) k_97 k_98)
          · have d_117 := iNe c_104
            have i_118 := u_101 (by omega)
            refine y_Model_next hok hw ra hz16 hz17 hz18 hz19 (by first | omega | (intro h; omega) | exact Or.inl rfl | exact Or.inr rfl) hR_87 (fun I_128 L_129 hR_130 fr_131 kp_132 u_120 u_121 u_122 u_123 u_124 u_125 u_126 u_127 => ⟨I_128, L_129, rfl, rfl, ?_⟩)
            have hf_133 : Fm (fun c => c = o) I0 I_128 := hf_90.call fr_131 (fun c hc => by first | exact hc | (dsimp only at hc ⊢; omega) | omega)
            have t_134 : (I_128 o 3).toInt = (I_85 o 3).toInt := by rw [kp_132 3 rfl]
            have t_135 : (I_128 o 4).toInt = (I_85 o 4).toInt := by rw [kp_132 4 rfl]
            have g_136 : (0 : Int) ≤ (I_128 o 6).toInt ∧ (I_128 o 6).toInt ≤ 1600 := hR_130.at0 ra 6 (by decide)
            have g_137 : (0 : Int) ≤ (I_128 o 7).toInt ∧ (I_128 o 7).toInt ≤ 1601 := hR_130.at0 ra 7 (by decide)
            have g_138 : (0 : Int) ≤ (I_128 o 8).toInt ∧ (I_128 o 8).toInt ≤ 6 := hR_130.at0 ra 8 (by decide)
            unfold fModel_numeral_69
            refine y_Model_isGood hok hw ra hR_130 (fun r_139 u_140 u_141 u_142 => ⟨r_139, I_128, L_129, rfl, rfl, ?_⟩)
            have b_143 : 0 ≤ r_139.toInt ∧ r_139.toInt ≤ 1 := u_140.rg
            refine ⟨fun c_144 => ?_, fun c_144 => ?_⟩
            · have d_145 := iEq c_144
              have i_146 := u_142 (by omega)
              exact (hp _ _ _ hR_130 hf_133 (by first | omega | (intro h; omega) | exact Or.inl rfl | exact Or.inr rfl) (by first | omega | (intro h; omega) | exact Or.inl rfl | exact Or.inr rfl) (by first | omega | (intro h; omega) | exact Or.inl rfl | exact Or.inr rfl) (by first | omega | (intro h; omega) | exact Or.inl rfl | exact Or.inr rfl) (by first | (intro _; omega) | (intro _; have ms := u_123 (by omega); omega)) u_126 u_127)
            · have d_147 := iNe c_144
              have i_148 := u_141 (by omega)
              exact (hp _ _ _ hR_130 hf_133 (by first | omega | (intro h; omega) | exact Or.inl rfl | exact Or.inr rfl) (by first | omega | (intro h; omega) | exact Or.inl rfl | exact Or.inr rfl) (by first | omega | (intro h; omega) | exact Or.inl rfl | exact Or.inr rfl) (by first | omega | (intro h; omega) | exact Or.inl rfl | exact Or.inr rfl) (by first | (intro _; omega) | (intro _; have ms := u_123 (by omega); omega)) u_126 u_127)
        · have d_149 := iNlt c_79
          refine ⟨fun c_150 => ?_, fun c_150 => ?_⟩
          · have d_151 := iLe c_150
            unfold fModel_numeral_53
            refine y_Model_isGood hok hw ra hR (fun r_152 u_153 u_154 u_155 => ⟨r_152, I0, L0, rfl, rfl, ?_⟩)
            have b_156 : 0 ≤ r_152.toInt ∧ r_152.toInt ≤ 1 := u_153.rg
            refine ⟨fun c_157 => ?_, fun c_157 => ?_⟩
            · have d_158 := iEq c_157
              have i_159 := u_155 (by omega)
              unfold fModel_numeral_69
              refine y_Model_isGood hok hw ra hR (fun r_160 u_161 u_162 u_163 => ⟨r_160, I0, L0, rfl, rfl, ?_⟩)
              have b_164 : 0 ≤ r_160.toInt ∧ r_160.toInt ≤ 1 := u_161.rg
              refine ⟨fun c_165 => ?_, fun c_165 => ?_⟩
              · have d_166 := iEq c_165
                have i_167 := u_163 (by omega)
                exact (hp _ _ _ hR hf (by first | omega | (intro h; omega) | exact Or.inl rfl | exact Or.inr rfl) (by first | omega | (intro h; omega) | exact Or.inl rfl | exact Or.inr rfl) (by first | omega | (intro h; omega) | exact Or.inl rfl | exact Or.inr rfl) (by first | omega | (intro h; omega) | exact Or.inl rfl | exact Or.inr rfl) (by first | (intro _; omega) | (intro _; have ms := False.elim (by omega); omega)) hq1 hq2)
              · have d_168 := iNe c_165
                have i_169 := u_162 (by omega)
                exact (hp _ _ _ hR hf (by first | omega | (intro h; omega) | exact Or.inl rfl | exact Or.inr rfl) (by first | omega | (intro h; omega) | exact Or.inl rfl | exact Or.inr rfl) (by first | omega | (intro h; omega) | exact Or.inl rfl | exact Or.inr rfl) (by first | omega | (intro h; omega) | exact Or.inl rfl | exact Or.inr rfl) (by first | (intro _; omega) | (intro _; have ms := False.elim (by omega); omega)) hq1 hq2)
            · have d_170 := iNe c_157
              have i_171 := u_154 (by omega)
              refine y_Model_next hok hw ra hz16 hz17 hz18 hz19 (by first | omega | (intro h; omega) | exact Or.inl rfl | exact Or.inr rfl) hR (fun I_181 L_182 hR_183 fr_184 kp_185 u_173 u_174 u_175 u_176 u_177 u_178 u_179 u_180 => ⟨I_181, L_182, rfl, rfl, ?_⟩)
              have hf_186 : Fm (fun c => c = o) I0 I_181 := hf.call fr_184 (fun c hc => by first | exact hc | (dsimp only at hc ⊢; omega) | omega)
              have t_187 : (I_181 o 3).toInt = (I0 o 3).toInt := by rw [kp_185 3 rfl]
              have t_188 : (I_181 o 4).toInt = (I0 o 4).toInt := by rw [kp_185 4 rfl]
              have g_189 : (0 : Int) ≤ (I_181 o 6).toInt ∧ (I_181 o 6).toInt ≤ 1600 := hR_183.at0 ra 6 (by decide)
              have g_190 : (0 : Int) ≤ (I_181 o 7).toInt ∧ (I_181 o 7).toInt ≤ 1601 := hR_183.at0 ra 7 (by decide)
              have g_191 : (0 : Int) ≤ (I_181 o 8).toInt ∧ (I_181 o 8).toInt ≤ 6 := hR_183.at0 ra 8 (by decide)
              unfold fModel_numeral_69
              refine y_Model_isGood hok hw ra hR_183 (fun r_192 u_193 u_194 u_195 => ⟨r_192, I_181, L_182, rfl, rfl, ?_⟩)
              have b_196 : 0 ≤ r_192.toInt ∧ r_192.toInt ≤ 1 := u_193.rg
              refine ⟨fun c_197 => ?_, fun c_197 => ?_⟩
              · have d_198 := iEq c_197
                have i_199 := u_195 (by omega)
                exact (hp _ _ _ hR_183 hf_186 (by first | omega | (intro h; omega) | exact Or.inl rfl | exact Or.inr rfl) (by first | omega | (intro h; omega) | exact Or.inl rfl | exact Or.inr rfl) (by first | omega | (intro h; omega) | exact Or.inl rfl | exact Or.inr rfl) (by first | omega | (intro h; omega) | exact Or.inl rfl | exact Or.inr rfl) (by first | (intro _; omega) | (intro _; have ms := u_176 (by omega); omega)) u_179 u_180)
              · have d_200 := iNe c_197
                have i_201 := u_194 (by omega)
                exact (hp _ _ _ hR_183 hf_186 (by first | omega | (intro h; omega) | exact Or.inl rfl | exact Or.inr rfl) (by first | omega | (intro h; omega) | exact Or.inl rfl | exact Or.inr rfl) (by first | omega | (intro h; omega) | exact Or.inl rfl | exact Or.inr rfl) (by first | omega | (intro h; omega) | exact Or.inl rfl | exact Or.inr rfl) (by first | (intro _; omega) | (intro _; have ms := u_176 (by omega); omega)) u_179 u_180)
          · have d_202 := iNle c_150
            unfold fModel_numeral_44
            have g_203 : (0 : Int) ≤ (I0 o 6).toInt ∧ (I0 o 6).toInt ≤ 1600 := hR.at0 ra 6 (by decide)
            refine y_Model_fails hok hw ra hz14 hz15 (by first | omega | (intro h; omega) | exact Or.inl rfl | exact Or.inr rfl) hR (fun I_207 L_208 hR_209 fr_210 kp_211 u_205 u_206 => ⟨I_207, L_208, rfl, rfl, ?_⟩)
            have hf_212 : Fm (fun c => c = o) I0 I_207 := hf.call fr_210 (fun c hc => by first | exact hc | (dsimp only at hc ⊢; omega) | omega)
            have t_213 : (I_207 o 3).toInt = (I0 o 3).toInt := by rw [kp_211 3 rfl]
            have g_214 : (0 : Int) ≤ (I_207 o 4).toInt ∧ (I_207 o 4).toInt ≤ 5 := hR_209.at0 ra 4 (by decide)
            have t_215 : (I_207 o 6).toInt = (I0 o 6).toInt := by rw [kp_211 6 rfl]
            have t_216 : (I_207 o 7).toInt = (I0 o 7).toInt := by rw [kp_211 7 rfl]
            have t_217 : (I_207 o 8).toInt = (I0 o 8).toInt := by rw [kp_211 8 rfl]
            have t_218 : (I_207 o 9).toInt = (I0 o 9).toInt := by rw [kp_211 9 rfl]
            have k_219 : MPo I_207 o := hq1.fr (kp_211 8 rfl) (kp_211 9 rfl)
            have k_220 : MTk I_207 o := hq2.fr (kp_211 6 rfl) (kp_211 7 rfl) (kp_211 8 rfl)
            unfold fModel_numeral_53
            refine y_Model_isGood hok hw ra hR_209 (fun r_221 u_222 u_223 u_224 => ⟨r_221, I_207, L_208, rfl, rfl, ?_⟩)
            have b_225 : 0 ≤ r_221.toInt ∧ r_221.toInt ≤ 1 := u_222.rg
            refine ⟨fun c_226 => ?_, fun c_226 => ?_⟩
            · have d_227 := iEq c_226
              have i_228 := u_224 (by omega)
              unfold fModel_numeral_69
              refine y_Model_isGood hok hw ra hR_209 (fun r_229 u_230 u_231 u_232 => ⟨r_229, I_207, L_208, rfl, rfl, ?_⟩)
              have b_233 : 0 ≤ r_229.toInt ∧ r_229.toInt ≤ 1 := u_230.rg
              refine ⟨fun c_234 => ?_, fun c_234 => ?_⟩
              · have d_235 := iEq c_234
                have i_236 := u_232 (by omega)
                exact (hp _ _ _ hR_209 hf_212 (by first | omega | (intro h; omega) | exact Or.inl rfl | exact Or.inr rfl) (by first | omega | (intro h; omega) | exact Or.inl rfl | exact Or.inr rfl) (by first | omega | (intro h; omega) | exact Or.inl rfl | exact Or.inr rfl) (by first | omega | (intro h; omega) | exact Or.inl rfl | exact Or.inr rfl) (by first | (intro _; omega) | (intro _; have ms := False.elim (by omega); omega)) k_219 k_220)
              · have d_237 := iNe c_234
                have i_238 := u_231 (by omega)
                exact (hp _ _ _ hR_209 hf_212 (by first | omega | (intro h; omega) | exact Or.inl rfl | exact Or.inr rfl) (by first | omega | (intro h; omega) | exact Or.inl rfl | exact Or.inr rfl) (by first | omega | (intro h; omega) | exact Or.inl rfl | exact Or.inr rfl) (by first | omega | (intro h; omega) | exact Or.inl rfl | exact Or.inr rfl) (by first | (intro _; omega) | (intro _; have ms := False.elim (by omega); omega)) k_219 k_220)
            · have d_239 := iNe c_226
              have i_240 := u_223 (by omega)
              refine y_Model_next hok hw ra hz16 hz17 hz18 hz19 (by first | omega | (intro h; omega) | exact Or.inl rfl | exact Or.inr rfl) hR_209 (fun I_250 L_251 hR_252 fr_253 kp_254 u_242 u_243 u_244 u_245 u_246 u_247 u_248 u_249 => ⟨I_250, L_251, rfl, rfl, ?_⟩)
              have hf_255 : Fm (fun c => c = o) I0 I_250 := hf_212.call fr_253 (fun c hc => by first | exact hc | (dsimp only at hc ⊢; omega) | omega)
              have t_256 : (I_250 o 3).toInt = (I_207 o 3).toInt := by rw [kp_254 3 rfl]
              have t_257 : (I_250 o 4).toInt = (I_207 o 4).toInt := by rw [kp_254 4 rfl]
              have g_258 : (0 : Int) ≤ (I_250 o 6).toInt ∧ (I_250 o 6).toInt ≤ 1600 := hR_252.at0 ra 6 (by decide)
              have g_259 : (0 : Int) ≤ (I_250 o 7).toInt ∧ (I_250 o 7).toInt ≤ 1601 := hR_252.at0 ra 7 (by decide)
              have g_260 : (0 : Int) ≤ (I_250 o 8).toInt ∧ (I_250 o 8).toInt ≤ 6 := hR_252.at0 ra 8 (by decide)
              unfold fModel_numeral_69
              refine y_Model_isGood hok hw ra hR_252 (fun r_261 u_262 u_263 u_264 => ⟨r_261, I_250, L_251, rfl, rfl, ?_⟩)
              have b_265 : 0 ≤ r_261.toInt ∧ r_261.toInt ≤ 1 := u_262.rg
              refine ⟨fun c_266 => ?_, fun c_266 => ?_⟩
              · have d_267 := iEq c_266
                have i_268 := u_264 (by omega)
                exact (hp _ _ _ hR_252 hf_255 (by first | omega | (intro h; omega) | exact Or.inl rfl | exact Or.inr rfl) (by first | omega | (intro h; omega) | exact Or.inl rfl | exact Or.inr rfl) (by first | omega | (intro h; omega) | exact Or.inl rfl | exact Or.inr rfl) (by first | omega | (intro h; omega) | exact Or.inl rfl | exact Or.inr rfl) (by first | (intro _; omega) | (intro _; have ms := u_245 (by omega); omega)) u_248 u_249)
              · have d_269 := iNe c_266
                have i_270 := u_263 (by omega)
                exact (hp _ _ _ hR_252 hf_255 (by first | omega | (intro h; omega) | exact Or.inl rfl | exact Or.inr rfl) (by first | omega | (intro h; omega) | exact Or.inl rfl | exact Or.inr rfl) (by first | omega | (intro h; omega) | exact Or.inl rfl | exact Or.inr rfl) (by first | omega | (intro h; omega) | exact Or.inl rfl | exact Or.inr rfl) (by first | (intro _; omega) | (intro _; have ms := u_245 (by omega); omega)) u_248 u_249)
    · have d_271 := iNe c_17
      refine y_Model_wrong hok hw ra hz14 hz15 hR (fun I_275 L_276 hR_277 fr_278 kp_279 u_273 u_274 => ⟨I_275, L_276, rfl, rfl, ?_⟩)
      have hf_280 : Fm (fun c => c = o) I0 I_275 := hf.call fr_278 (fun c hc => by first | exact hc | (dsimp only at hc ⊢; omega) | omega)
      have t_281 : (I_275 o 3).toInt = (I0 o 3).toInt := by rw [kp_279 3 rfl]
      have g_282 : (0 : Int) ≤ (I_275 o 4).toInt ∧ (I_275 o 4).toInt ≤ 5 := hR_277.at0 ra 4 (by decide)
      have t_283 : (I_275 o 6).toInt = (I0 o 6).toInt := by rw [kp_279 6 rfl]
      have t_284 : (I_275 o 7).toInt = (I0 o 7).toInt := by rw [kp_279 7 rfl]
      have t_285 : (I_275 o 8).toInt = (I0 o 8).toInt := by rw [kp_279 8 rfl]
      have t_286 : (I_275 o 9).toInt = (I0 o 9).toInt := by rw [kp_279 9 rfl]
      have k_287 : MPo I_275 o := hq1.fr (kp_279 8 rfl) (kp_279 9 rfl)
      have k_288 : MTk I_275 o := hq2.fr (kp_279 6 rfl) (kp_279 7 rfl) (kp_279 8 rfl)
      unfold fModel_numeral_21
      refine y_Model_isGood hok hw ra hR_277 (fun r_289 u_290 u_291 u_292 => ⟨r_289, I_275, L_276, rfl, rfl, ?_⟩)
      have b_293 : 0 ≤ r_289.toInt ∧ r_289.toInt ≤ 1 := u_290.rg
      refine ⟨fun c_294 => ?_, fun c_294 => ?_⟩
      · have d_295 := iEq c_294
        have i_296 := u_292 (by omega)
        unfold fModel_numeral_53
        refine y_Model_isGood hok hw ra hR_277 (fun r_297 u_298 u_299 u_300 => ⟨r_297, I_275, L_276, rfl, rfl, ?_⟩)
        have b_301 : 0 ≤ r_297.toInt ∧ r_297.toInt ≤ 1 := u_298.rg
        refine ⟨fun c_302 => ?_, fun c_302 => ?_⟩
        · have d_303 := iEq c_302
          have i_304 := u_300 (by omega)
          unfold fModel_numeral_69
          refine y_Model_isGood hok hw ra hR_277 (fun r_305 u_306 u_307 u_308 => ⟨r_305, I_275, L_276, rfl, rfl, ?_⟩)
          have b_309 : 0 ≤ r_305.toInt ∧ r_305.toInt ≤ 1 := u_306.rg
          refine ⟨fun c_310 => ?_, fun c_310 => ?_⟩
          · have d_311 := iEq c_310
            have i_312 := u_308 (by omega)
            exact (hp _ _ _ hR_277 hf_280 (by first | omega | (intro h; omega) | exact Or.inl rfl | exact Or.inr rfl) (by first | omega | (intro h; omega) | exact Or.inl rfl | exact Or.inr rfl) (by first | omega | (intro h; omega) | exact Or.inl rfl | exact Or.inr rfl) (by first | omega | (intro h; omega) | exact Or.inl rfl | exact Or.inr rfl) (by first | (intro _; omega) | (intro _; have ms := False.elim (by omega); omega)) k_287 k_288)
          · have d_313 := iNe c_310
            have i_314 := u_307 (by omega)
            exact (hp _ _ _ hR_277 hf_280 (by first | omega | (intro h; omega) | exact Or.inl rfl | exact Or.inr rfl) (by first | omega | (intro h; omega) | exact Or.inl rfl | exact Or.inr rfl) (by first | omega | (intro h; omega) | exact Or.inl rfl | exact Or.inr rfl) (by first | omega | (intro h; omega) | exact Or.inl rfl | exact Or.inr rfl) (by first | (intro _; omega) | (intro _; have ms := False.elim (by omega); omega)) k_287 k_288)
        · have d_315 := iNe c_302
          have i_316 := u_299 (by omega)
          refine y_Model_next hok hw ra hz16 hz17 hz18 hz19 (by first | omega | (intro h; omega) | exact Or.inl rfl | exact Or.inr rfl) hR_277 (fun I_326 L_327 hR_328 fr_329 kp_330 u_318 u_319 u_320 u_321 u_322 u_323 u_324 u_325 => ⟨I_326, L_327, rfl, rfl, ?_⟩)
          have hf_331 : Fm (fun c => c = o) I0 I_326 := hf_280.call fr_329 (fun c hc => by first | exact hc | (dsimp only at hc ⊢; omega) | omega)
          have t_332 : (I_326 o 3).toInt = (I_275 o 3).toInt := by rw [kp_330 3 rfl]
          have t_333 : (I_326 o 4).toInt = (I_275 o 4).toInt := by rw [kp_330 4 rfl]
          have g_334 : (0 : Int) ≤ (I_326 o 6).toInt ∧ (I_326 o 6).toInt ≤ 1600 := hR_328.at0 ra 6 (by decide)
          have g_335 : (0 : Int) ≤ (I_326 o 7).toInt ∧ (I_326 o 7).toInt ≤ 1601 := hR_328.at0 ra 7 (by decide)
          have g_336 : (0 : Int) ≤ (I_326 o 8).toInt ∧ (I_326 o 8).toInt ≤ 6 := hR_328.at0 ra 8 (by decide)
          unfold fModel_numeral_69
          refine y_Model_isGood hok hw ra hR_328 (fun r_337 u_338 u_339 u_340 => ⟨r_337, I_326, L_327, rfl, rfl, ?_⟩)
          have b_341 : 0 ≤ r_337.toInt ∧ r_337.toInt ≤ 1 := u_338.rg
          refine ⟨fun c_342 => ?_, fun c_342 => ?_⟩
          · have d_343 := iEq c_342
            have i_344 := u_340 (by omega)
            exact (hp _ _ _ hR_328 hf_331 (by first | omega | (intro h; omega) | exact Or.inl rfl | exact Or.inr rfl) (by first | omega | (intro h; omega) | exact Or.inl rfl | exact Or.inr rfl) (by first | omega | (intro h; omega) | exact Or.inl rfl | exact Or.inr rfl) (by first | omega | (intro h; omega) | exact Or.inl rfl | exact Or.inr rfl) (by first | (intro _; omega) | (intro _; have ms := u_321 (by omega); omega)) u_324 u_325)
          · have d_345 := iNe c_342
            have i_346 := u_339 (by omega)
            exact (hp _ _ _ hR_328 hf_331 (by first | omega | (intro h; omega) | exact Or.inl rfl | exact Or.inr rfl) (by first | omega | (intro h; omega) | exact Or.inl rfl | exact Or.inr rfl) (by first | omega | (intro h; omega) | exact Or.inl rfl | exact Or.inr rfl) (by first | omega | (intro h; omega) | exact Or.inl rfl | exact Or.inr rfl) (by first | (intro _; omega) | (intro _; have ms := u_321 (by omega); omega)) u_324 u_325)
      · have d_347 := iNe c_294
        have i_348 := u_291 (by omega)
        refine ⟨fun c_349 => ?_, fun c_349 => ?_⟩
        · have d_350 := iLt c_349
          unfold fModel_numeral_44
          have g_351 : (0 : Int) ≤ (I_275 o 6).toInt ∧ (I_275 o 6).toInt ≤ 1600 := hR_277.at0 ra 6 (by decide)
          refine y_Model_fails hok hw ra hz14 hz15 (by first | omega | (intro h; omega) | exact Or.inl rfl | exact Or.inr rfl) hR_277 (fun I_355 L_356 hR_357 fr_358 kp_359 u_353 u_354 => ⟨I_355, L_356, rfl, rfl, ?_⟩)
          have hf_360 : Fm (fun c => c = o) I0 I_355 := hf_280.call fr_358 (fun c hc => by first | exact hc | (dsimp only at hc ⊢; omega) | omega)
          have t_361 : (I_355 o 3).toInt = (I_275 o 3).toInt := by rw [kp_359 3 rfl]
          have g_362 : (0 : Int) ≤ (I_355 o 4).toInt ∧ (I_355 o 4).toInt ≤ 5 := hR_357.at0 ra 4 (by decide)
          have t_363 : (I_355 o 6).toInt = (I_275 o 6).toInt := by rw [kp_359 6 rfl]
          have t_364 : (I_355 o 7).toInt = (I_275 o 7).toInt := by rw [kp_359 7 rfl]
          have t_365 : (I_355 o 8).toInt = (I_275 o 8).toInt := by rw [kp_359 8 rfl]
          have t_366 : (I_355 o 9).toInt = (I_275 o 9).toInt := by rw [kp_359 9 rfl]
          have k_367 : MPo I_355 o := k_287.fr (kp_359 8 rfl) (kp_359 9 rfl)
          have k_368 : MTk I_355 o := k_288.fr (kp_359 6 rfl) (kp_359 7 rfl) (kp_359 8 rfl)
          unfold fModel_numeral_53
          refine y_Model_isGood hok hw ra hR_357 (fun r_369 u_370 u_371 u_372 => ⟨r_369, I_355, L_356, rfl, rfl, ?_⟩)
          have b_373 : 0 ≤ r_369.toInt ∧ r_369.toInt ≤ 1 := u_370.rg
          refine ⟨fun c_374 => ?_, fun c_374 => ?_⟩
          · have d_375 := iEq c_374
            have i_376 := u_372 (by omega)
            unfold fModel_numeral_69
            refine y_Model_isGood hok hw ra hR_357 (fun r_377 u_378 u_379 u_380 => ⟨r_377, I_355, L_356, rfl, rfl, ?_⟩)
            have b_381 : 0 ≤ r_377.toInt ∧ r_377.toInt ≤ 1 := u_378.rg
            refine ⟨fun c_382 => ?_, fun c_382 => ?_⟩
            · have d_383 := iEq c_382
              have i_384 := u_380 (by omega)
              exact (hp _ _ _ hR_357 hf_360 (by first | omega | (intro h; omega) | exact Or.inl rfl | exact Or.inr rfl) (by first | omega | (intro h; omega) | exact Or.inl rfl | exact Or.inr rfl) (by first | omega | (intro h; omega) | exact Or.inl rfl | exact Or.inr rfl) (by first | omega | (intro h; omega) | exact Or.inl rfl | exact Or.inr rfl) (by first | (intro _; omega) | (intro _; have ms := False.elim (by omega); omega)) k_367 k_368)
            · have d_385 := iNe c_382
              have i_386 := u_379 (by omega)
              exact (hp _ _ _ hR_357 hf_360 (by first | omega | (intro h; omega) | exact Or.inl rfl | exact Or.inr rfl) (by first | omega | (intro h; omega) | exact Or.inl rfl | exact Or.inr rfl) (by first | omega | (intro h; omega) | exact Or.inl rfl | exact Or.inr rfl) (by first | omega | (intro h; omega) | exact Or.inl rfl | exact Or.inr rfl) (by first | (intro _; omega) | (intro _; have ms := False.elim (by omega); omega)) k_367 k_368)
          · have d_387 := iNe c_374
            have i_388 := u_371 (by omega)
            refine y_Model_next hok hw ra hz16 hz17 hz18 hz19 (by first | omega | (intro h; omega) | exact Or.inl rfl | exact Or.inr rfl) hR_357 (fun I_398 L_399 hR_400 fr_401 kp_402 u_390 u_391 u_392 u_393 u_394 u_395 u_396 u_397 => ⟨I_398, L_399, rfl, rfl, ?_⟩)
            have hf_403 : Fm (fun c => c = o) I0 I_398 := hf_360.call fr_401 (fun c hc => by first | exact hc | (dsimp only at hc ⊢; omega) | omega)
            have t_404 : (I_398 o 3).toInt = (I_355 o 3).toInt := by rw [kp_402 3 rfl]
            have t_405 : (I_398 o 4).toInt = (I_355 o 4).toInt := by rw [kp_402 4 rfl]
            have g_406 : (0 : Int) ≤ (I_398 o 6).toInt ∧ (I_398 o 6).toInt ≤ 1600 := hR_400.at0 ra 6 (by decide)
            have g_407 : (0 : Int) ≤ (I_398 o 7).toInt ∧ (I_398 o 7).toInt ≤ 1601 := hR_400.at0 ra 7 (by decide)
            have g_408 : (0 : Int) ≤ (I_398 o 8).toInt ∧ (I_398 o 8).toInt ≤ 6 := hR_400.at0 ra 8 (by decide)
            unfold fModel_numeral_69
            refine y_Model_isGood hok hw ra hR_400 (fun r_409 u_410 u_411 u_412 => ⟨r_409, I_398, L_399, rfl, rfl, ?_⟩)
            have b_413 : 0 ≤ r_409.toInt ∧ r_409.toInt ≤ 1 := u_410.rg
            refine ⟨fun c_414 => ?_, fun c_414 => ?_⟩
            · have d_415 := iEq c_414
              have i_416 := u_412 (by omega)
              exact (hp _ _ _ hR_400 hf_403 (by first | omega | (intro h; omega) | exact Or.inl rfl | exact Or.inr rfl) (by first | omega | (intro h; omega) | exact Or.inl rfl | exact Or.inr rfl) (by first | omega | (intro h; omega) | exact Or.inl rfl | exact Or.inr rfl) (by first | omega | (intro h; omega) | exact Or.inl rfl | exact Or.inr rfl) (by first | (intro _; omega) | (intro _; have ms := u_393 (by omega); omega)) u_396 u_397)
            · have d_417 := iNe c_414
              have i_418 := u_411 (by omega)
              exact (hp _ _ _ hR_400 hf_403 (by first | omega | (intro h; omega) | exact Or.inl rfl | exact Or.inr rfl) (by first | omega | (intro h; omega) | exact Or.inl rfl | exact Or.inr rfl) (by first | omega | (intro h; omega) | exact Or.inl rfl | exact Or.inr rfl) (by first | omega | (intro h; omega) | exact Or.inl rfl | exact Or.inr rfl) (by first | (intro _; omega) | (intro _; have ms := u_393 (by omega); omega)) u_396 u_397)
        · have d_419 := iNlt c_349
          refine ⟨fun c_420 => ?_, fun c_420 => ?_⟩
          · have d_421 := iLe c_420
            unfold fModel_numeral_53
            refine y_Model_isGood hok hw ra hR_277 (fun r_422 u_423 u_424 u_425 => ⟨r_422, I_275, L_276, rfl, rfl, ?_⟩)
            have b_426 : 0 ≤ r_422.toInt ∧ r_422.toInt ≤ 1 := u_423.rg
            refine ⟨fun c_427 => ?_, fun c_427 => ?_⟩
            · have d_428 := iEq c_427
              have i_429 := u_425 (by omega)
              unfold fModel_numeral_69
              refine y_Model_isGood hok hw ra hR_277 (fun r_430 u_431 u_432 u_433 => ⟨r_430, I_275, L_276, rfl, rfl, ?_⟩)
              have b_434 : 0 ≤ r_430.toInt ∧ r_430.toInt ≤ 1 := u_431.rg
              refine ⟨fun c_435 => ?_, fun c_435 => ?_⟩
              · have d_436 := iEq c_435
                have i_437 := u_433 (by omega)
                exact (hp _ _ _ hR_277 hf_280 (by first | omega | (intro h; omega) | exact Or.inl rfl | exact Or.inr rfl) (by first | omega | (intro h; omega) | exact Or.inl rfl | exact Or.inr rfl) (by first | omega | (intro h; omega) | exact Or.inl rfl | exact Or.inr rfl) (by first | omega | (intro h; omega) | exact Or.inl rfl | exact Or.inr rfl) (by first | (intro _; omega) | (intro _; have ms := False.elim (by omega); omega)) k_287 k_288)
              · have d_438 := iNe c_435
                have i_439 := u_432 (by omega)
                exact (hp _ _ _ hR_277 hf_280 (by first | omega | (intro h; omega) | exact Or.inl rfl | exact Or.inr rfl) (by first | omega | (intro h; omega) | exact Or.inl rfl | exact Or.inr rfl) (by first | omega | (intro h; omega) | exact Or.inl rfl | exact Or.inr rfl) (by first | omega | (intro h; omega) | exact Or.inl rfl | exact Or.inr rfl) (by first | (intro _; omega) | (intro _; have ms := False.elim (by omega); omega)) k_287 k_288)
            · have d_440 := iNe c_427
              have i_441 := u_424 (by omega)
              refine y_Model_next hok hw ra hz16 hz17 hz18 hz19 (by first | omega | (intro h; omega) | exact Or.inl rfl | exact Or.inr rfl) hR_277 (fun I_451 L_452 hR_453 fr_454 kp_455 u_443 u_444 u_445 u_446 u_447 u_448 u_449 u_450 => ⟨I_451, L_452, rfl, rfl, ?_⟩)
              have hf_456 : Fm (fun c => c = o) I0 I_451 := hf_280.call fr_454 (fun c hc => by first | exact hc | (dsimp only at hc ⊢; omega) | omega)
              have t_457 : (I_451 o 3).toInt = (I_275 o 3).toInt := by rw [kp_455 3 rfl]
              have t_458 : (I_451 o 4).toInt = (I_275 o 4).toInt := by rw [kp_455 4 rfl]
              have g_459 : (0 : Int) ≤ (I_451 o 6).toInt ∧ (I_451 o 6).toInt ≤ 1600 := hR_453.at0 ra 6 (by decide)
              have g_460 : (0 : Int) ≤ (I_451 o 7).toInt ∧ (I_451 o 7).toInt ≤ 1601 := hR_453.at0 ra 7 (by decide)
              have g_461 : (0 : Int) ≤ (I_451 o 8).toInt ∧ (I_451 o 8).toInt ≤ 6 := hR_453.at0 ra 8 (by decide)
              unfold fModel_numeral_69
              refine y_Model_isGood hok hw ra hR_453 (fun r_462 u_463 u_464 u_465 => ⟨r_462, I_451, L_452, rfl, rfl, ?_⟩)
              have b_466 : 0 ≤ r_462.toInt ∧ r_462.toInt ≤ 1 := u_463.rg
              refine ⟨fun c_467 => ?_, fun c_467 => ?_⟩
              · have d_468 := iEq c_467
                have i_469 := u_465 (by omega)
                exact (hp _ _ _ hR_453 hf_456 (by first | omega | (intro h; omega) | exact Or.inl rfl | exact Or.inr rfl) (by first | omega | (intro h; omega) | exact Or.inl rfl | exact Or.inr rfl) (by first | omega | (intro h; omega) | exact Or.inl rfl | exact Or.inr rfl) (by first | omega | (intro h; omega) | exact Or.inl rfl | exact Or.inr rfl) (by first | (intro _; omega) | (intro _; have ms := u_446 (by omega); omega)) u_449 u_450)
              · have d_470 := iNe c_467
                have i_471 := u_464 (by omega)
                exact (hp _ _ _ hR_453 hf_456 (by first | omega | (intro h; omega) | exact Or.inl rfl | exact Or.inr rfl) (by first | omega | (intro h; omega) | exact Or.inl rfl | exact Or.inr rfl) (by first | omega | (intro h; omega) | exact Or.inl rfl | exact Or.inr rfl) (by first | omega | (intro h; omega) | exact Or.inl rfl | exact Or.inr rfl) (by first | (intro _; omega) | (intro _; have ms := u_446 (by omega); omega)) u_449 u_450)
          · have d_472 := iNle c_420
            unfold fModel_numeral_44
            have g_473 : (0 : Int) ≤ (I_275 o 6).toInt ∧ (I_275 o 6).toInt ≤ 1600 := hR_277.at0 ra 6 (by decide)
            refine y_Model_fails hok hw ra hz14 hz15 (by first | omega | (intro h; omega) | exact Or.inl rfl | exact Or.inr rfl) hR_277 (fun I_477 L_478 hR_479 fr_480 kp_481 u_475 u_476 => ⟨I_477, L_478, rfl, rfl, ?_⟩)
            have hf_482 : Fm (fun c => c = o) I0 I_477 := hf_280.call fr_480 (fun c hc => by first | exact hc | (dsimp only at hc ⊢; omega) | omega)
            have t_483 : (I_477 o 3).toInt = (I_275 o 3).toInt := by rw [kp_481 3 rfl]
            have g_484 : (0 : Int) ≤ (I_477 o 4).toInt ∧ (I_477 o 4).toInt ≤ 5 := hR_479.at0 ra 4 (by decide)
            have t_485 : (I_477 o 6).toInt = (I_275 o 6).toInt := by rw [kp_481 6 rfl]
            have t_486 : (I_477 o 7).toInt = (I_275 o 7).toInt := by rw [kp_481 7 rfl]
            have t_487 : (I_477 o 8).toInt = (I_275 o 8).toInt := by rw [kp_481 8 rfl]
            have t_488 : (I_477 o 9).toInt = (I_275 o 9).toInt := by rw [kp_481 9 rfl]
            have k_489 : MPo I_477 o := k_287.fr (kp_481 8 rfl) (kp_481 9 rfl)
            have k_490 : MTk I_477 o := k_288.fr (kp_481 6 rfl) (kp_481 7 rfl) (kp_481 8 rfl)
            unfold fModel_numeral_53
            refine y_Model_isGood hok hw ra hR_479 (fun r_491 u_492 u_493 u_494 => ⟨r_491, I_477, L_478, rfl, rfl, ?_⟩)
            have b_495 : 0 ≤ r_491.toInt ∧ r_491.toInt ≤ 1 := u_492.rg
            refine ⟨fun c_496 => ?_, fun c_496 => ?_⟩
            · have d_497 := iEq c_496
              have i_498 := u_494 (by omega)
              unfold fModel_numeral_69
              refine y_Model_isGood hok hw ra hR_479 (fun r_499 u_500 u_501 u_502 => ⟨r_499, I_477, L_478, rfl, rfl, ?_⟩)
              have b_503 : 0 ≤ r_499.toInt ∧ r_499.toInt ≤ 1 := u_500.rg
              refine ⟨fun c_504 => ?_, fun c_504 => ?_⟩
              · have d_505 := iEq c_504
                have i_506 := u_502 (by omega)
                exact (hp _ _ _ hR_479 hf_482 (by first | omega | (intro h; omega) | exact Or.inl rfl | exact Or.inr rfl) (by first | omega | (intro h; omega) | exact Or.inl rfl | exact Or.inr rfl) (by first | omega | (intro h; omega) | exact Or.inl rfl | exact Or.inr rfl) (by first | omega | (intro h; omega) | exact Or.inl rfl | exact Or.inr rfl) (by first | (intro _; omega) | (intro _; have ms := False.elim (by omega); omega)) k_489 k_490)
              · have d_507 := iNe c_504
                have i_508 := u_501 (by omega)
                exact (hp _ _ _ hR_479 hf_482 (by first | omega | (intro h; omega) | exact Or.inl rfl | exact Or.inr rfl) (by first | omega | (intro h; omega) | exact Or.inl rfl | exact Or.inr rfl) (by first | omega | (intro h; omega) | exact Or.inl rfl | exact Or.inr rfl) (by first | omega | (intro h; omega) | exact Or.inl rfl | exact Or.inr rfl) (by first | (intro _; omega) | (intro _; have ms := False.elim (by omega); omega)) k_489 k_490)
            · have d_509 := iNe c_496
              have i_510 := u_493 (by omega)
              refine y_Model_next hok hw ra hz16 hz17 hz18 hz19 (by first | omega | (intro h; omega) | exact Or.inl rfl | exact Or.inr rfl) hR_479 (fun I_520 L_521 hR_522 fr_523 kp_524 u_512 u_513 u_514 u_515 u_516 u_517 u_518 u_519 => ⟨I_520, L_521, rfl, rfl, ?_⟩)
              have hf_525 : Fm (fun c => c = o) I0 I_520 := hf_482.call fr_523 (fun c hc => by first | exact hc | (dsimp only at hc ⊢; omega) | omega)
              have t_526 : (I_520 o 3).toInt = (I_477 o 3).toInt := by rw [kp_524 3 rfl]
              have t_527 : (I_520 o 4).toInt = (I_477 o 4).toInt := by rw [kp_524 4 rfl]
              have g_528 : (0 : Int) ≤ (I_520 o 6).toInt ∧ (I_520 o 6).toInt ≤ 1600 := hR_522.at0 ra 6 (by decide)
              have g_529 : (0 : Int) ≤ (I_520 o 7).toInt ∧ (I_520 o 7).toInt ≤ 1601 := hR_522.at0 ra 7 (by decide)
              have g_530 : (0 : Int) ≤ (I_520 o 8).toInt ∧ (I_520 o 8).toInt ≤ 6 := hR_522.at0 ra 8 (by decide)
              unfold fModel_numeral_69
              refine y_Model_isGood hok hw ra hR_522 (fun r_531 u_532 u_533 u_534 => ⟨r_531, I_520, L_521, rfl, rfl, ?_⟩)
              have b_535 : 0 ≤ r_531.toInt ∧ r_531.toInt ≤ 1 := u_532.rg
              refine ⟨fun c_536 => ?_, fun c_536 => ?_⟩
              · have d_537 := iEq c_536
                have i_538 := u_534 (by omega)
                exact (hp _ _ _ hR_522 hf_525 (by first | omega | (intro h; omega) | exact Or.inl rfl | exact Or.inr rfl) (by first | omega | (intro h; omega) | exact Or.inl rfl | exact Or.inr rfl) (by first | omega | (intro h; omega) | exact Or.inl rfl | exact Or.inr rfl) (by first | omega | (intro h; omega) | exact Or.inl rfl | exact Or.inr rfl) (by first | (intro _; omega) | (intro _; have ms := u_515 (by omega); omega)) u_518 u_519)
              · have d_539 := iNe c_536
                have i_540 := u_533 (by omega)
                exact (hp _ _ _ hR_522 hf_525 (by first | omega | (intro h; omega) | exact Or.inl rfl | exact Or.inr rfl) (by first | omega | (intro h; omega) | exact Or.inl rfl | exact Or.inr rfl) (by first | omega | (intro h; omega) | exact Or.inl rfl | exact Or.inr rfl) (by first | omega | (intro h; omega) | exact Or.inl rfl | exact Or.inr rfl) (by first | (intro _; omega) | (intro _; have ms := u_515 (by omega); omega)) u_518 u_519)
  · have d_541 := iEq c_12
    have i_542 := u_9 (by omega)
    exact (hp _ _ _ hR hf (by first | omega | (intro h; omega) | exact Or.inl rfl | exact Or.inr rfl) (by first | omega | (intro h; omega) | exact Or.inl rfl | exact Or.inr rfl) (by first | omega | (intro h; omega) | exact Or.inl rfl | exact Or.inr rfl) (by first | omega | (intro h; omega) | exact Or.inl rfl | exact Or.inr rfl) (by first | (intro _; omega) | (intro _; have ms := False.elim (by omega); omega)) hq1 hq2)
theorem y_Model_numeral {D : va_G} {cA : FieldType → ClassId} {b : Nat} {E : State → Prop} {R : qRg} {o n : Nat} {sh : Nat → qC} {Rf : Nat → Nat → Option Nat} {I0 : Nat → Nat → Int32} {L0 : Nat → Nat → Int64} {post : Option Value → qS → Prop} {p1 : Int32} {p2 : Int32} (hok : q_ok (qGG D cA b E)) (hw : WfModel (qGG D cA b E) n sh Rf o) (ra : RAModel R o) (hz14 : R.2 14 = true) (hz15 : R.2 15 = true) (hz16 : R.2 16 = true) (hz17 : R.2 17 = true) (hz18 : R.2 18 = true) (hz19 : R.2 19 = true) (hq0 : (I0 o 7).toInt ≤ (I0 o 3).toInt) (hq1 : MPo I0 o) (hq2 : MTk I0 o) (hR : RI R I0) (hp : ∀ (r : Int32) (I' : Nat → Nat → Int32) (L' : Nat → Nat → Int64), RI R I' → Fm (fun c => c = o) I0 I' → Kp wModel_numeral I0 I' o → ((I' o 7).toInt ≤ (I' o 3).toInt) → ((I0 o 7).toInt ≤ (I' o 7).toInt) → ((I0 o 4).toInt ≤ (I' o 4).toInt) → (7 * (I0 o 7).toInt - (I0 o 8).toInt + (I0 o 4).toInt ≤ 7 * (I' o 7).toInt - (I' o 8).toInt + (I' o 4).toInt) → (Im ((I0 o 4).toInt = 0) (7 * (I0 o 7).toInt - (I0 o 8).toInt + (I0 o 4).toInt < 7 * (I' o 7).toInt - (I' o 8).toInt + (I' o 4).toInt)) → (MPo I' o) → (MTk I' o) → post (some (.int r)) (n, sh, Rf, I', L')) : Ev (qGG D cA b E) mModel_numeral 3 (0, 0) 0 (lv_args 0 [.ref o, .int p1, .int p2]) [] (n, sh, Rf, I0, L0) post :=
  yc_Model_numeral (R := fzR R I0 o wModel_numeral) hok hw (fzA ra hR _) (fzT hz14 rfl) (fzT hz15 rfl) (fzT hz16 rfl) (fzT hz17 rfl) (fzT hz18 rfl) (fzT hz19 rfl) fzZ (fzI hR) hq0 hq1 hq2 (fzI hR) (fun r I' L' h1 h2 u0 u1 u2 u3 u4 u5 u6 => hp r I' L' (fzB hR h1) h2 (fzP h1) u0 u1 u2 u3 u4 u5 u6)
def wModel_newName : Nat → Bool := fun j => Nat.beq j 14 || Nat.beq j 15 || Nat.beq j 16 || Nat.beq j 17 || Nat.beq j 18 || Nat.beq j 19 || false
set_option maxHeartbeats 4000000 in
set_option maxRecDepth 20000 in
theorem yc_Model_newName {D : va_G} {cA : FieldType → ClassId} {b : Nat} {E : State → Prop} {R : qRg} {o n : Nat} {sh : Nat → qC} {Rf : Nat → Nat → Option Nat} {I0 : Nat → Nat → Int32} {L0 : Nat → Nat → Int64} {post : Option Value → qS → Prop} (hok : q_ok (qGG D cA b E)) (hw : WfModel (qGG D cA b E) n sh Rf o) (ra : RAModel R o) (hz14 : R.2 14 = true) (hz15 : R.2 15 = true) (hz16 : R.2 16 = true) (hz17 : R.2 17 = true) (hz18 : R.2 18 = true) (hz19 : R.2 19 = true) (hZ : Fz R I0 o wModel_newName) (hR0 : RI R I0) (hq0 : (I0 o 7).toInt ≤ (I0 o 3).toInt) (hq1 : MPo I0 o) (hq2 : MTk I0 o) (hR : RI R I0) (hp : ∀ (r : Int64) (I' : Nat → Nat → Int32) (L' : Nat → Nat → Int64), RI R I' → Fm (fun c => c = o) I0 I' → ((I' o 7).toInt ≤ (I' o 3).toInt) → ((I0 o 7).toInt ≤ (I' o 7).toInt) → ((I0 o 4).toInt ≤ (I' o 4).toInt) → (7 * (I0 o 7).toInt - (I0 o 8).toInt + (I0 o 4).toInt ≤ 7 * (I' o 7).toInt - (I' o 8).toInt + (I' o 4).toInt) → (MPo I' o) → (MTk I' o) → post (some (.long r)) (n, sh, Rf, I', L')) : Ev (qGG D cA b E) mModel_newName 4 (0, 0) 0 (lv_args 0 [.ref o]) [] (n, sh, Rf, I0, L0) post := by
  have hf : Fm (fun c => c = o) I0 I0 := Fm.rf
  have g_1 : (0 : Int) ≤ (I0 o 3).toInt ∧ (I0 o 3).toInt ≤ 1600 := hR.at0 ra 3 (by decide)
  have g_2 : (0 : Int) ≤ (I0 o 4).toInt ∧ (I0 o 4).toInt ≤ 5 := hR.at0 ra 4 (by decide)
  have g_3 : (0 : Int) ≤ (I0 o 6).toInt ∧ (I0 o 6).toInt ≤ 1600 := hR.at0 ra 6 (by decide)
  have g_4 : (0 : Int) ≤ (I0 o 7).toInt ∧ (I0 o 7).toInt ≤ 1601 := hR.at0 ra 7 (by decide)
  have g_5 : (0 : Int) ≤ (I0 o 8).toInt ∧ (I0 o 8).toInt ≤ 6 := hR.at0 ra 8 (by decide)
  refine sModel_newName_0 o n sh Rf I0 L0 post  hok hw ?_
  unfold fModel_newName_0
  refine y_Model_isGood hok hw ra hR (fun r_6 u_7 u_8 u_9 => ⟨r_6, I0, L0, rfl, rfl, ?_⟩)
  have b_10 : 0 ≤ r_6.toInt ∧ r_6.toInt ≤ 1 := u_7.rg
  have l_11 : (0 : Int32).toInt = 0 := rfl
  refine ⟨fun c_12 => ?_, fun c_12 => ?_⟩
  · have d_13 := iEq c_12
    have i_14 := u_9 (by omega)
    unfold fModel_newName_37
    have g_15 : (0 : Int) ≤ (I0 o 8).toInt ∧ (I0 o 8).toInt ≤ 6 := hR.at0 ra 8 (by decide)
    have l_16 : (2 : Int32).toInt = 2 := rfl
    refine ⟨fun c_17 => ?_, fun c_17 => ?_⟩
    · have d_18 := iNe c_17
      unfold fModel_newName_51
      refine y_Model_must hok hw ra hz14 hz15 hz16 hz17 hz18 hz19 (by first | omega | (intro h; omega) | exact Or.inl rfl | exact Or.inr rfl) hq1 hq2 hR (fun I_29 L_30 hR_31 fr_32 kp_33 u_20 u_21 u_22 u_23 u_24 u_25 u_26 u_27 u_28 => ⟨I_29, L_30, rfl, rfl, ?_⟩)
      have hf_34 : Fm (fun c => c = o) I0 I_29 := hf.call fr_32 (fun c hc => by first | exact hc | (dsimp only at hc ⊢; omega) | omega)
      have t_35 : (I_29 o 3).toInt = (I0 o 3).toInt := by rw [kp_33 3 rfl]
      have g_36 : (0 : Int) ≤ (I_29 o 4).toInt ∧ (I_29 o 4).toInt ≤ 5 := hR_31.at0 ra 4 (by decide)
      have g_37 : (0 : Int) ≤ (I_29 o 6).toInt ∧ (I_29 o 6).toInt ≤ 1600 := hR_31.at0 ra 6 (by decide)
      have g_38 : (0 : Int) ≤ (I_29 o 7).toInt ∧ (I_29 o 7).toInt ≤ 1601 := hR_31.at0 ra 7 (by decide)
      have g_39 : (0 : Int) ≤ (I_29 o 8).toInt ∧ (I_29 o 8).toInt ≤ 6 := hR_31.at0 ra 8 (by decide)
      have l_40 : (24948 : Int32).toInt = 24948 := rfl
      refine y_Model_isWord hok hw ra hR_31 (fun r_41 u_42 u_43 => ⟨r_41, I_29, L_30, rfl, rfl, ?_⟩)
      have b_44 : 0 ≤ r_41.toInt ∧ r_41.toInt ≤ 1 := u_42.rg
      refine y_Model_must hok hw ra hz14 hz15 hz16 hz17 hz18 hz19 (by first | omega | (intro h; omega) | exact Or.inl rfl | exact Or.inr rfl) u_27 u_28 hR_31 (fun I_55 L_56 hR_57 fr_58 kp_59 u_46 u_47 u_48 u_49 u_50 u_51 u_52 u_53 u_54 => ⟨I_55, L_56, rfl, rfl, ?_⟩)
      have hf_60 : Fm (fun c => c = o) I0 I_55 := hf_34.call fr_58 (fun c hc => by first | exact hc | (dsimp only at hc ⊢; omega) | omega)
      have t_61 : (I_55 o 3).toInt = (I_29 o 3).toInt := by rw [kp_59 3 rfl]
      have g_62 : (0 : Int) ≤ (I_55 o 4).toInt ∧ (I_55 o 4).toInt ≤ 5 := hR_57.at0 ra 4 (by decide)
      have g_63 : (0 : Int) ≤ (I_55 o 6).toInt ∧ (I_55 o 6).toInt ≤ 1600 := hR_57.at0 ra 6 (by decide)
      have g_64 : (0 : Int) ≤ (I_55 o 7).toInt ∧ (I_55 o 7).toInt ≤ 1601 := hR_57.at0 ra 7 (by decide)
      have g_65 : (0 : Int) ≤ (I_55 o 8).toInt ∧ (I_55 o 8).toInt ≤ 6 := hR_57.at0 ra 8 (by decide)
      exact (hp _ _ _ hR_57 hf_60 (by first | omega | (intro h; omega) | exact Or.inl rfl | exact Or.inr rfl) (by first | omega | (intro h; omega) | exact Or.inl rfl | exact Or.inr rfl) (by first | omega | (intro h; omega) | exact Or.inl rfl | exact Or.inr rfl) (by first | omega | (intro h; omega) | exact Or.inl rfl | exact Or.inr rfl) u_53 u_54)
    · have d_66 := iEq c_17
      unfold fModel_newName_51
      have l_67 : (1 : Int32).toInt = 1 := rfl
      refine y_Model_must hok hw ra hz14 hz15 hz16 hz17 hz18 hz19 (by first | omega | (intro h; omega) | exact Or.inl rfl | exact Or.inr rfl) hq1 hq2 hR (fun I_78 L_79 hR_80 fr_81 kp_82 u_69 u_70 u_71 u_72 u_73 u_74 u_75 u_76 u_77 => ⟨I_78, L_79, rfl, rfl, ?_⟩)
      have hf_83 : Fm (fun c => c = o) I0 I_78 := hf.call fr_81 (fun c hc => by first | exact hc | (dsimp only at hc ⊢; omega) | omega)
      have t_84 : (I_78 o 3).toInt = (I0 o 3).toInt := by rw [kp_82 3 rfl]
      have g_85 : (0 : Int) ≤ (I_78 o 4).toInt ∧ (I_78 o 4).toInt ≤ 5 := hR_80.at0 ra 4 (by decide)
      have g_86 : (0 : Int) ≤ (I_78 o 6).toInt ∧ (I_78 o 6).toInt ≤ 1600 := hR_80.at0 ra 6 (by decide)
      have g_87 : (0 : Int) ≤ (I_78 o 7).toInt ∧ (I_78 o 7).toInt ≤ 1601 := hR_80.at0 ra 7 (by decide)
      have g_88 : (0 : Int) ≤ (I_78 o 8).toInt ∧ (I_78 o 8).toInt ≤ 6 := hR_80.at0 ra 8 (by decide)
      have l_89 : (24948 : Int32).toInt = 24948 := rfl
      refine y_Model_isWord hok hw ra hR_80 (fun r_90 u_91 u_92 => ⟨r_90, I_78, L_79, rfl, rfl, ?_⟩)
      have b_93 : 0 ≤ r_90.toInt ∧ r_90.toInt ≤ 1 := u_91.rg
      refine y_Model_must hok hw ra hz14 hz15 hz16 hz17 hz18 hz19 (by first | omega | (intro h; omega) | exact Or.inl rfl | exact Or.inr rfl) u_76 u_77 hR_80 (fun I_104 L_105 hR_106 fr_107 kp_108 u_95 u_96 u_97 u_98 u_99 u_100 u_101 u_102 u_103 => ⟨I_104, L_105, rfl, rfl, ?_⟩)
      have hf_109 : Fm (fun c => c = o) I0 I_104 := hf_83.call fr_107 (fun c hc => by first | exact hc | (dsimp only at hc ⊢; omega) | omega)
      have t_110 : (I_104 o 3).toInt = (I_78 o 3).toInt := by rw [kp_108 3 rfl]
      have g_111 : (0 : Int) ≤ (I_104 o 4).toInt ∧ (I_104 o 4).toInt ≤ 5 := hR_106.at0 ra 4 (by decide)
      have g_112 : (0 : Int) ≤ (I_104 o 6).toInt ∧ (I_104 o 6).toInt ≤ 1600 := hR_106.at0 ra 6 (by decide)
      have g_113 : (0 : Int) ≤ (I_104 o 7).toInt ∧ (I_104 o 7).toInt ≤ 1601 := hR_106.at0 ra 7 (by decide)
      have g_114 : (0 : Int) ≤ (I_104 o 8).toInt ∧ (I_104 o 8).toInt ≤ 6 := hR_106.at0 ra 8 (by decide)
      exact (hp _ _ _ hR_106 hf_109 (by first | omega | (intro h; omega) | exact Or.inl rfl | exact Or.inr rfl) (by first | omega | (intro h; omega) | exact Or.inl rfl | exact Or.inr rfl) (by first | omega | (intro h; omega) | exact Or.inl rfl | exact Or.inr rfl) (by first | omega | (intro h; omega) | exact Or.inl rfl | exact Or.inr rfl) u_102 u_103)
  · have d_115 := iNe c_12
    have i_116 := u_8 (by omega)
    have g_117 : (0 : Int) ≤ (I0 o 8).toInt ∧ (I0 o 8).toInt ≤ 6 := hR.at0 ra 8 (by decide)
    have l_118 : (2 : Int32).toInt = 2 := rfl
    refine ⟨fun c_119 => ?_, fun c_119 => ?_⟩
    · have d_120 := iNe c_119
      unfold fModel_newName_37
      have g_121 : (0 : Int) ≤ (I0 o 8).toInt ∧ (I0 o 8).toInt ≤ 6 := hR.at0 ra 8 (by decide)
      refine ⟨fun c_122 => ?_, fun c_122 => ?_⟩
      · have d_123 := iNe c_122
        unfold fModel_newName_51
        refine y_Model_must hok hw ra hz14 hz15 hz16 hz17 hz18 hz19 (by first | omega | (intro h; omega) | exact Or.inl rfl | exact Or.inr rfl) hq1 hq2 hR (fun I_134 L_135 hR_136 fr_137 kp_138 u_125 u_126 u_127 u_128 u_129 u_130 u_131 u_132 u_133 => ⟨I_134, L_135, rfl, rfl, ?_⟩)
        have hf_139 : Fm (fun c => c = o) I0 I_134 := hf.call fr_137 (fun c hc => by first | exact hc | (dsimp only at hc ⊢; omega) | omega)
        have t_140 : (I_134 o 3).toInt = (I0 o 3).toInt := by rw [kp_138 3 rfl]
        have g_141 : (0 : Int) ≤ (I_134 o 4).toInt ∧ (I_134 o 4).toInt ≤ 5 := hR_136.at0 ra 4 (by decide)
        have g_142 : (0 : Int) ≤ (I_134 o 6).toInt ∧ (I_134 o 6).toInt ≤ 1600 := hR_136.at0 ra 6 (by decide)
        have g_143 : (0 : Int) ≤ (I_134 o 7).toInt ∧ (I_134 o 7).toInt ≤ 1601 := hR_136.at0 ra 7 (by decide)
        have g_144 : (0 : Int) ≤ (I_134 o 8).toInt ∧ (I_134 o 8).toInt ≤ 6 := hR_136.at0 ra 8 (by decide)
        have l_145 : (24948 : Int32).toInt = 24948 := rfl
        refine y_Model_isWord hok hw ra hR_136 (fun r_146 u_147 u_148 => ⟨r_146, I_134, L_135, rfl, rfl, ?_⟩)
        have b_149 : 0 ≤ r_146.toInt ∧ r_146.toInt ≤ 1 := u_147.rg
        refine y_Model_must hok hw ra hz14 hz15 hz16 hz17 hz18 hz19 (by first | omega | (intro h; omega) | exact Or.inl rfl | exact Or.inr rfl) u_132 u_133 hR_136 (fun I_160 L_161 hR_162 fr_163 kp_164 u_151 u_152 u_153 u_154 u_155 u_156 u_157 u_158 u_159 => ⟨I_160, L_161, rfl, rfl, ?_⟩)
        have hf_165 : Fm (fun c => c = o) I0 I_160 := hf_139.call fr_163 (fun c hc => by first | exact hc | (dsimp only at hc ⊢; omega) | omega)
        have t_166 : (I_160 o 3).toInt = (I_134 o 3).toInt := by rw [kp_164 3 rfl]
        have g_167 : (0 : Int) ≤ (I_160 o 4).toInt ∧ (I_160 o 4).toInt ≤ 5 := hR_162.at0 ra 4 (by decide)
        have g_168 : (0 : Int) ≤ (I_160 o 6).toInt ∧ (I_160 o 6).toInt ≤ 1600 := hR_162.at0 ra 6 (by decide)
        have g_169 : (0 : Int) ≤ (I_160 o 7).toInt ∧ (I_160 o 7).toInt ≤ 1601 := hR_162.at0 ra 7 (by decide)
        have g_170 : (0 : Int) ≤ (I_160 o 8).toInt ∧ (I_160 o 8).toInt ≤ 6 := hR_162.at0 ra 8 (by decide)
        exact (hp _ _ _ hR_162 hf_165 (by first | omega | (intro h; omega) | exact Or.inl rfl | exact Or.inr rfl) (by first | omega | (intro h; omega) | exact Or.inl rfl | exact Or.inr rfl) (by first | omega | (intro h; omega) | exact Or.inl rfl | exact Or.inr rfl) (by first | omega | (intro h; omega) | exact Or.inl rfl | exact Or.inr rfl) u_158 u_159)
      · have d_171 := iEq c_122
        unfold fModel_newName_51
        have l_172 : (1 : Int32).toInt = 1 := rfl
        refine y_Model_must hok hw ra hz14 hz15 hz16 hz17 hz18 hz19 (by first | omega | (intro h; omega) | exact Or.inl rfl | exact Or.inr rfl) hq1 hq2 hR (fun I_183 L_184 hR_185 fr_186 kp_187 u_174 u_175 u_176 u_177 u_178 u_179 u_180 u_181 u_182 => ⟨I_183, L_184, rfl, rfl, ?_⟩)
        have hf_188 : Fm (fun c => c = o) I0 I_183 := hf.call fr_186 (fun c hc => by first | exact hc | (dsimp only at hc ⊢; omega) | omega)
        have t_189 : (I_183 o 3).toInt = (I0 o 3).toInt := by rw [kp_187 3 rfl]
        have g_190 : (0 : Int) ≤ (I_183 o 4).toInt ∧ (I_183 o 4).toInt ≤ 5 := hR_185.at0 ra 4 (by decide)
        have g_191 : (0 : Int) ≤ (I_183 o 6).toInt ∧ (I_183 o 6).toInt ≤ 1600 := hR_185.at0 ra 6 (by decide)
        have g_192 : (0 : Int) ≤ (I_183 o 7).toInt ∧ (I_183 o 7).toInt ≤ 1601 := hR_185.at0 ra 7 (by decide)
        have g_193 : (0 : Int) ≤ (I_183 o 8).toInt ∧ (I_183 o 8).toInt ≤ 6 := hR_185.at0 ra 8 (by decide)
        have l_194 : (24948 : Int32).toInt = 24948 := rfl
        refine y_Model_isWord hok hw ra hR_185 (fun r_195 u_196 u_197 => ⟨r_195, I_183, L_184, rfl, rfl, ?_⟩)
        have b_198 : 0 ≤ r_195.toInt ∧ r_195.toInt ≤ 1 := u_196.rg
        refine y_Model_must hok hw ra hz14 hz15 hz16 hz17 hz18 hz19 (by first | omega | (intro h; omega) | exact Or.inl rfl | exact Or.inr rfl) u_181 u_182 hR_185 (fun I_209 L_210 hR_211 fr_212 kp_213 u_200 u_201 u_202 u_203 u_204 u_205 u_206 u_207 u_208 => ⟨I_209, L_210, rfl, rfl, ?_⟩)
        have hf_214 : Fm (fun c => c = o) I0 I_209 := hf_188.call fr_212 (fun c hc => by first | exact hc | (dsimp only at hc ⊢; omega) | omega)
        have t_215 : (I_209 o 3).toInt = (I_183 o 3).toInt := by rw [kp_213 3 rfl]
        have g_216 : (0 : Int) ≤ (I_209 o 4).toInt ∧ (I_209 o 4).toInt ≤ 5 := hR_211.at0 ra 4 (by decide)
        have g_217 : (0 : Int) ≤ (I_209 o 6).toInt ∧ (I_209 o 6).toInt ≤ 1600 := hR_211.at0 ra 6 (by decide)
        have g_218 : (0 : Int) ≤ (I_209 o 7).toInt ∧ (I_209 o 7).toInt ≤ 1601 := hR_211.at0 ra 7 (by decide)
        have g_219 : (0 : Int) ≤ (I_209 o 8).toInt ∧ (I_209 o 8).toInt ≤ 6 := hR_211.at0 ra 8 (by decide)
        exact (hp _ _ _ hR_211 hf_214 (by first | omega | (intro h; omega) | exact Or.inl rfl | exact Or.inr rfl) (by first | omega | (intro h; omega) | exact Or.inl rfl | exact Or.inr rfl) (by first | omega | (intro h; omega) | exact Or.inl rfl | exact Or.inr rfl) (by first | omega | (intro h; omega) | exact Or.inl rfl | exact Or.inr rfl) u_207 u_208)
    · have d_220 := iEq c_119
      refine y_Model_isTold hok hw ra hR (fun r_221 u_222 => ⟨r_221, I0, L0, rfl, rfl, ?_⟩)
      have b_223 : 0 ≤ r_221.toInt ∧ r_221.toInt ≤ 1 := u_222.rg
      refine ⟨fun c_224 => ?_, fun c_224 => ?_⟩
      · have d_225 := iEq c_224
        unfold fModel_newName_37
        have g_226 : (0 : Int) ≤ (I0 o 8).toInt ∧ (I0 o 8).toInt ≤ 6 := hR.at0 ra 8 (by decide)
        refine ⟨fun c_227 => ?_, fun c_227 => ?_⟩
        · have d_228 := iNe c_227
          unfold fModel_newName_51
          refine y_Model_must hok hw ra hz14 hz15 hz16 hz17 hz18 hz19 (by first | omega | (intro h; omega) | exact Or.inl rfl | exact Or.inr rfl) hq1 hq2 hR (fun I_239 L_240 hR_241 fr_242 kp_243 u_230 u_231 u_232 u_233 u_234 u_235 u_236 u_237 u_238 => ⟨I_239, L_240, rfl, rfl, ?_⟩)
          have hf_244 : Fm (fun c => c = o) I0 I_239 := hf.call fr_242 (fun c hc => by first | exact hc | (dsimp only at hc ⊢; omega) | omega)
          have t_245 : (I_239 o 3).toInt = (I0 o 3).toInt := by rw [kp_243 3 rfl]
          have g_246 : (0 : Int) ≤ (I_239 o 4).toInt ∧ (I_239 o 4).toInt ≤ 5 := hR_241.at0 ra 4 (by decide)
          have g_247 : (0 : Int) ≤ (I_239 o 6).toInt ∧ (I_239 o 6).toInt ≤ 1600 := hR_241.at0 ra 6 (by decide)
          have g_248 : (0 : Int) ≤ (I_239 o 7).toInt ∧ (I_239 o 7).toInt ≤ 1601 := hR_241.at0 ra 7 (by decide)
          have g_249 : (0 : Int) ≤ (I_239 o 8).toInt ∧ (I_239 o 8).toInt ≤ 6 := hR_241.at0 ra 8 (by decide)
          have l_250 : (24948 : Int32).toInt = 24948 := rfl
          refine y_Model_isWord hok hw ra hR_241 (fun r_251 u_252 u_253 => ⟨r_251, I_239, L_240, rfl, rfl, ?_⟩)
          have b_254 : 0 ≤ r_251.toInt ∧ r_251.toInt ≤ 1 := u_252.rg
          refine y_Model_must hok hw ra hz14 hz15 hz16 hz17 hz18 hz19 (by first | omega | (intro h; omega) | exact Or.inl rfl | exact Or.inr rfl) u_237 u_238 hR_241 (fun I_265 L_266 hR_267 fr_268 kp_269 u_256 u_257 u_258 u_259 u_260 u_261 u_262 u_263 u_264 => ⟨I_265, L_266, rfl, rfl, ?_⟩)
          have hf_270 : Fm (fun c => c = o) I0 I_265 := hf_244.call fr_268 (fun c hc => by first | exact hc | (dsimp only at hc ⊢; omega) | omega)
          have t_271 : (I_265 o 3).toInt = (I_239 o 3).toInt := by rw [kp_269 3 rfl]
          have g_272 : (0 : Int) ≤ (I_265 o 4).toInt ∧ (I_265 o 4).toInt ≤ 5 := hR_267.at0 ra 4 (by decide)
          have g_273 : (0 : Int) ≤ (I_265 o 6).toInt ∧ (I_265 o 6).toInt ≤ 1600 := hR_267.at0 ra 6 (by decide)
          have g_274 : (0 : Int) ≤ (I_265 o 7).toInt ∧ (I_265 o 7).toInt ≤ 1601 := hR_267.at0 ra 7 (by decide)
          have g_275 : (0 : Int) ≤ (I_265 o 8).toInt ∧ (I_265 o 8).toInt ≤ 6 := hR_267.at0 ra 8 (by decide)
          exact (hp _ _ _ hR_267 hf_270 (by first | omega | (intro h; omega) | exact Or.inl rfl | exact Or.inr rfl) (by first | omega | (intro h; omega) | exact Or.inl rfl | exact Or.inr rfl) (by first | omega | (intro h; omega) | exact Or.inl rfl | exact Or.inr rfl) (by first | omega | (intro h; omega) | exact Or.inl rfl | exact Or.inr rfl) u_263 u_264)
        · have d_276 := iEq c_227
          unfold fModel_newName_51
          have l_277 : (1 : Int32).toInt = 1 := rfl
          refine y_Model_must hok hw ra hz14 hz15 hz16 hz17 hz18 hz19 (by first | omega | (intro h; omega) | exact Or.inl rfl | exact Or.inr rfl) hq1 hq2 hR (fun I_288 L_289 hR_290 fr_291 kp_292 u_279 u_280 u_281 u_282 u_283 u_284 u_285 u_286 u_287 => ⟨I_288, L_289, rfl, rfl, ?_⟩)
          have hf_293 : Fm (fun c => c = o) I0 I_288 := hf.call fr_291 (fun c hc => by first | exact hc | (dsimp only at hc ⊢; omega) | omega)
          have t_294 : (I_288 o 3).toInt = (I0 o 3).toInt := by rw [kp_292 3 rfl]
          have g_295 : (0 : Int) ≤ (I_288 o 4).toInt ∧ (I_288 o 4).toInt ≤ 5 := hR_290.at0 ra 4 (by decide)
          have g_296 : (0 : Int) ≤ (I_288 o 6).toInt ∧ (I_288 o 6).toInt ≤ 1600 := hR_290.at0 ra 6 (by decide)
          have g_297 : (0 : Int) ≤ (I_288 o 7).toInt ∧ (I_288 o 7).toInt ≤ 1601 := hR_290.at0 ra 7 (by decide)
          have g_298 : (0 : Int) ≤ (I_288 o 8).toInt ∧ (I_288 o 8).toInt ≤ 6 := hR_290.at0 ra 8 (by decide)
          have l_299 : (24948 : Int32).toInt = 24948 := rfl
          refine y_Model_isWord hok hw ra hR_290 (fun r_300 u_301 u_302 => ⟨r_300, I_288, L_289, rfl, rfl, ?_⟩)
          have b_303 : 0 ≤ r_300.toInt ∧ r_300.toInt ≤ 1 := u_301.rg
          refine y_Model_must hok hw ra hz14 hz15 hz16 hz17 hz18 hz19 (by first | omega | (intro h; omega) | exact Or.inl rfl | exact Or.inr rfl) u_286 u_287 hR_290 (fun I_314 L_315 hR_316 fr_317 kp_318 u_305 u_306 u_307 u_308 u_309 u_310 u_311 u_312 u_313 => ⟨I_314, L_315, rfl, rfl, ?_⟩)
          have hf_319 : Fm (fun c => c = o) I0 I_314 := hf_293.call fr_317 (fun c hc => by first | exact hc | (dsimp only at hc ⊢; omega) | omega)
          have t_320 : (I_314 o 3).toInt = (I_288 o 3).toInt := by rw [kp_318 3 rfl]
          have g_321 : (0 : Int) ≤ (I_314 o 4).toInt ∧ (I_314 o 4).toInt ≤ 5 := hR_316.at0 ra 4 (by decide)
          have g_322 : (0 : Int) ≤ (I_314 o 6).toInt ∧ (I_314 o 6).toInt ≤ 1600 := hR_316.at0 ra 6 (by decide)
          have g_323 : (0 : Int) ≤ (I_314 o 7).toInt ∧ (I_314 o 7).toInt ≤ 1601 := hR_316.at0 ra 7 (by decide)
          have g_324 : (0 : Int) ≤ (I_314 o 8).toInt ∧ (I_314 o 8).toInt ≤ 6 := hR_316.at0 ra 8 (by decide)
          exact (hp _ _ _ hR_316 hf_319 (by first | omega | (intro h; omega) | exact Or.inl rfl | exact Or.inr rfl) (by first | omega | (intro h; omega) | exact Or.inl rfl | exact Or.inr rfl) (by first | omega | (intro h; omega) | exact Or.inl rfl | exact Or.inr rfl) (by first | omega | (intro h; omega) | exact Or.inl rfl | exact Or.inr rfl) u_312 u_313)
      · have d_325 := iNe c_224
        have g_326 : (0 : Int) ≤ (I0 o 6).toInt ∧ (I0 o 6).toInt ≤ 1600 := hR.at0 ra 6 (by decide)
        have l_327 : (3 : Int32).toInt = 3 := rfl
        refine y_Model_fails hok hw ra hz14 hz15 (by first | omega | (intro h; omega) | exact Or.inl rfl | exact Or.inr rfl) hR (fun I_331 L_332 hR_333 fr_334 kp_335 u_329 u_330 => ⟨I_331, L_332, rfl, rfl, ?_⟩)
        have hf_336 : Fm (fun c => c = o) I0 I_331 := hf.call fr_334 (fun c hc => by first | exact hc | (dsimp only at hc ⊢; omega) | omega)
        have t_337 : (I_331 o 3).toInt = (I0 o 3).toInt := by rw [kp_335 3 rfl]
        have g_338 : (0 : Int) ≤ (I_331 o 4).toInt ∧ (I_331 o 4).toInt ≤ 5 := hR_333.at0 ra 4 (by decide)
        have t_339 : (I_331 o 6).toInt = (I0 o 6).toInt := by rw [kp_335 6 rfl]
        have t_340 : (I_331 o 7).toInt = (I0 o 7).toInt := by rw [kp_335 7 rfl]
        have t_341 : (I_331 o 8).toInt = (I0 o 8).toInt := by rw [kp_335 8 rfl]
        have t_342 : (I_331 o 9).toInt = (I0 o 9).toInt := by rw [kp_335 9 rfl]
        have k_343 : MPo I_331 o := hq1.fr (kp_335 8 rfl) (kp_335 9 rfl)
        have k_344 : MTk I_331 o := hq2.fr (kp_335 6 rfl) (kp_335 7 rfl) (kp_335 8 rfl)
        unfold fModel_newName_37
        have g_345 : (0 : Int) ≤ (I_331 o 8).toInt ∧ (I_331 o 8).toInt ≤ 6 := hR_333.at0 ra 8 (by decide)
        refine ⟨fun c_346 => ?_, fun c_346 => ?_⟩
        · have d_347 := iNe c_346
          unfold fModel_newName_51
          refine y_Model_must hok hw ra hz14 hz15 hz16 hz17 hz18 hz19 (by first | omega | (intro h; omega) | exact Or.inl rfl | exact Or.inr rfl) k_343 k_344 hR_333 (fun I_358 L_359 hR_360 fr_361 kp_362 u_349 u_350 u_351 u_352 u_353 u_354 u_355 u_356 u_357 => ⟨I_358, L_359, rfl, rfl, ?_⟩)
          have hf_363 : Fm (fun c => c = o) I0 I_358 := hf_336.call fr_361 (fun c hc => by first | exact hc | (dsimp only at hc ⊢; omega) | omega)
          have t_364 : (I_358 o 3).toInt = (I_331 o 3).toInt := by rw [kp_362 3 rfl]
          have g_365 : (0 : Int) ≤ (I_358 o 4).toInt ∧ (I_358 o 4).toInt ≤ 5 := hR_360.at0 ra 4 (by decide)
          have g_366 : (0 : Int) ≤ (I_358 o 6).toInt ∧ (I_358 o 6).toInt ≤ 1600 := hR_360.at0 ra 6 (by decide)
          have g_367 : (0 : Int) ≤ (I_358 o 7).toInt ∧ (I_358 o 7).toInt ≤ 1601 := hR_360.at0 ra 7 (by decide)
          have g_368 : (0 : Int) ≤ (I_358 o 8).toInt ∧ (I_358 o 8).toInt ≤ 6 := hR_360.at0 ra 8 (by decide)
          have l_369 : (24948 : Int32).toInt = 24948 := rfl
          refine y_Model_isWord hok hw ra hR_360 (fun r_370 u_371 u_372 => ⟨r_370, I_358, L_359, rfl, rfl, ?_⟩)
          have b_373 : 0 ≤ r_370.toInt ∧ r_370.toInt ≤ 1 := u_371.rg
          refine y_Model_must hok hw ra hz14 hz15 hz16 hz17 hz18 hz19 (by first | omega | (intro h; omega) | exact Or.inl rfl | exact Or.inr rfl) u_356 u_357 hR_360 (fun I_384 L_385 hR_386 fr_387 kp_388 u_375 u_376 u_377 u_378 u_379 u_380 u_381 u_382 u_383 => ⟨I_384, L_385, rfl, rfl, ?_⟩)
          have hf_389 : Fm (fun c => c = o) I0 I_384 := hf_363.call fr_387 (fun c hc => by first | exact hc | (dsimp only at hc ⊢; omega) | omega)
          have t_390 : (I_384 o 3).toInt = (I_358 o 3).toInt := by rw [kp_388 3 rfl]
          have g_391 : (0 : Int) ≤ (I_384 o 4).toInt ∧ (I_384 o 4).toInt ≤ 5 := hR_386.at0 ra 4 (by decide)
          have g_392 : (0 : Int) ≤ (I_384 o 6).toInt ∧ (I_384 o 6).toInt ≤ 1600 := hR_386.at0 ra 6 (by decide)
          have g_393 : (0 : Int) ≤ (I_384 o 7).toInt ∧ (I_384 o 7).toInt ≤ 1601 := hR_386.at0 ra 7 (by decide)
          have g_394 : (0 : Int) ≤ (I_384 o 8).toInt ∧ (I_384 o 8).toInt ≤ 6 := hR_386.at0 ra 8 (by decide)
          exact (hp _ _ _ hR_386 hf_389 (by first | omega | (intro h; omega) | exact Or.inl rfl | exact Or.inr rfl) (by first | omega | (intro h; omega) | exact Or.inl rfl | exact Or.inr rfl) (by first | omega | (intro h; omega) | exact Or.inl rfl | exact Or.inr rfl) (by first | omega | (intro h; omega) | exact Or.inl rfl | exact Or.inr rfl) u_382 u_383)
        · have d_395 := iEq c_346
          unfold fModel_newName_51
          have l_396 : (1 : Int32).toInt = 1 := rfl
          refine y_Model_must hok hw ra hz14 hz15 hz16 hz17 hz18 hz19 (by first | omega | (intro h; omega) | exact Or.inl rfl | exact Or.inr rfl) k_343 k_344 hR_333 (fun I_407 L_408 hR_409 fr_410 kp_411 u_398 u_399 u_400 u_401 u_402 u_403 u_404 u_405 u_406 => ⟨I_407, L_408, rfl, rfl, ?_⟩)
          have hf_412 : Fm (fun c => c = o) I0 I_407 := hf_336.call fr_410 (fun c hc => by first | exact hc | (dsimp only at hc ⊢; omega) | omega)
          have t_413 : (I_407 o 3).toInt = (I_331 o 3).toInt := by rw [kp_411 3 rfl]
          have g_414 : (0 : Int) ≤ (I_407 o 4).toInt ∧ (I_407 o 4).toInt ≤ 5 := hR_409.at0 ra 4 (by decide)
          have g_415 : (0 : Int) ≤ (I_407 o 6).toInt ∧ (I_407 o 6).toInt ≤ 1600 := hR_409.at0 ra 6 (by decide)
          have g_416 : (0 : Int) ≤ (I_407 o 7).toInt ∧ (I_407 o 7).toInt ≤ 1601 := hR_409.at0 ra 7 (by decide)
          have g_417 : (0 : Int) ≤ (I_407 o 8).toInt ∧ (I_407 o 8).toInt ≤ 6 := hR_409.at0 ra 8 (by decide)
          have l_418 : (24948 : Int32).toInt = 24948 := rfl
          refine y_Model_isWord hok hw ra hR_409 (fun r_419 u_420 u_421 => ⟨r_419, I_407, L_408, rfl, rfl, ?_⟩)
          have b_422 : 0 ≤ r_419.toInt ∧ r_419.toInt ≤ 1 := u_420.rg
          refine y_Model_must hok hw ra hz14 hz15 hz16 hz17 hz18 hz19 (by first | omega | (intro h; omega) | exact Or.inl rfl | exact Or.inr rfl) u_405 u_406 hR_409 (fun I_433 L_434 hR_435 fr_436 kp_437 u_424 u_425 u_426 u_427 u_428 u_429 u_430 u_431 u_432 => ⟨I_433, L_434, rfl, rfl, ?_⟩)
          have hf_438 : Fm (fun c => c = o) I0 I_433 := hf_412.call fr_436 (fun c hc => by first | exact hc | (dsimp only at hc ⊢; omega) | omega)
          have t_439 : (I_433 o 3).toInt = (I_407 o 3).toInt := by rw [kp_437 3 rfl]
          have g_440 : (0 : Int) ≤ (I_433 o 4).toInt ∧ (I_433 o 4).toInt ≤ 5 := hR_435.at0 ra 4 (by decide)
          have g_441 : (0 : Int) ≤ (I_433 o 6).toInt ∧ (I_433 o 6).toInt ≤ 1600 := hR_435.at0 ra 6 (by decide)
          have g_442 : (0 : Int) ≤ (I_433 o 7).toInt ∧ (I_433 o 7).toInt ≤ 1601 := hR_435.at0 ra 7 (by decide)
          have g_443 : (0 : Int) ≤ (I_433 o 8).toInt ∧ (I_433 o 8).toInt ≤ 6 := hR_435.at0 ra 8 (by decide)
          exact (hp _ _ _ hR_435 hf_438 (by first | omega | (intro h; omega) | exact Or.inl rfl | exact Or.inr rfl) (by first | omega | (intro h; omega) | exact Or.inl rfl | exact Or.inr rfl) (by first | omega | (intro h; omega) | exact Or.inl rfl | exact Or.inr rfl) (by first | omega | (intro h; omega) | exact Or.inl rfl | exact Or.inr rfl) u_431 u_432)
theorem y_Model_newName {D : va_G} {cA : FieldType → ClassId} {b : Nat} {E : State → Prop} {R : qRg} {o n : Nat} {sh : Nat → qC} {Rf : Nat → Nat → Option Nat} {I0 : Nat → Nat → Int32} {L0 : Nat → Nat → Int64} {post : Option Value → qS → Prop} (hok : q_ok (qGG D cA b E)) (hw : WfModel (qGG D cA b E) n sh Rf o) (ra : RAModel R o) (hz14 : R.2 14 = true) (hz15 : R.2 15 = true) (hz16 : R.2 16 = true) (hz17 : R.2 17 = true) (hz18 : R.2 18 = true) (hz19 : R.2 19 = true) (hq0 : (I0 o 7).toInt ≤ (I0 o 3).toInt) (hq1 : MPo I0 o) (hq2 : MTk I0 o) (hR : RI R I0) (hp : ∀ (r : Int64) (I' : Nat → Nat → Int32) (L' : Nat → Nat → Int64), RI R I' → Fm (fun c => c = o) I0 I' → Kp wModel_newName I0 I' o → ((I' o 7).toInt ≤ (I' o 3).toInt) → ((I0 o 7).toInt ≤ (I' o 7).toInt) → ((I0 o 4).toInt ≤ (I' o 4).toInt) → (7 * (I0 o 7).toInt - (I0 o 8).toInt + (I0 o 4).toInt ≤ 7 * (I' o 7).toInt - (I' o 8).toInt + (I' o 4).toInt) → (MPo I' o) → (MTk I' o) → post (some (.long r)) (n, sh, Rf, I', L')) : Ev (qGG D cA b E) mModel_newName 4 (0, 0) 0 (lv_args 0 [.ref o]) [] (n, sh, Rf, I0, L0) post :=
  yc_Model_newName (R := fzR R I0 o wModel_newName) hok hw (fzA ra hR _) (fzT hz14 rfl) (fzT hz15 rfl) (fzT hz16 rfl) (fzT hz17 rfl) (fzT hz18 rfl) (fzT hz19 rfl) fzZ (fzI hR) hq0 hq1 hq2 (fzI hR) (fun r I' L' h1 h2 u0 u1 u2 u3 u4 u5 => hp r I' L' (fzB hR h1) h2 (fzP h1) u0 u1 u2 u3 u4 u5)
