/-! Safety of Tape.startReading, Land.read: by program (spec.py). -/
set_option maxHeartbeats 4000000 in
set_option maxRecDepth 20000 in
theorem yTape_cutToken_2 {D : va_G} {cA : FieldType → ClassId} {b : Nat} {kS vS : Nat → Nat} {xb xl : Nat} {xs : Nat → Int32} {R : qRg} {o n : Nat} {sh : Nat → qC} {Rf : Nat → Nat → Option Nat} {I0 : Nat → Nat → Int32} {L0 : Nat → Nat → Int64} {post : Option Value → qS → Prop} {p1 : Int32} {p2 : Int32} (hok : q_ok (qGG D cA b (qEx b kS vS xb xl xs))) (hw : WfTape (qGG D cA b (qEx b kS vS xb xl xs)) n sh Rf o) (ra : RATape R o) (hq0 : (0 : Int) ≤ p1.toInt ∧ p1.toInt ≤ 1600) (hq1 : (0 : Int) ≤ p2.toInt ∧ p2.toInt ≤ 1603) (hq2 : TokOK I0 o) (hp : ∀ (r : Int32) (I' : Nat → Nat → Int32) (L' : Nat → Nat → Int64), RI R I' → Fm (fun c => c = o + 3 ∨ c = o + 4 ∨ c = o + 5) I0 I' → (((0 : Int) ≤ r.toInt ∧ r.toInt ≤ 1603)) → (TokOK I' o) → post (some (.int r)) (n, sh, Rf, I', L')) : ∀ (k : Nat) {x1 : Int32} {x2 : Int32} {x3 : Int32} {I : Nat → Nat → Int32} {L : Nat → Nat → Int64}, RI R I → Fm (fun c => c = o + 3 ∨ c = o + 4 ∨ c = o + 5) I0 I → ((0 : Int) ≤ x3.toInt ∧ x3.toInt ≤ 1603) → (x1 = p1) → (x2 = p2) → (TokX I o p1.toNatClampNeg) → (1600 - x3.toInt).toNat < k → Ev (qGG D cA b (qEx b kS vS xb xl xs)) mTape_cutToken 8 (0, 0) 2 [(0, .ref o), (1, .int x1), (2, .int x2), (3, .int x3)] [] (n, sh, Rf, I, L) post := by
  intro k
  induction k with
  | zero =>
    intro x1 x2 x3 I L hR hf hi0 hi1 hi2 hi3 hm
    exact absurd hm (Nat.not_lt_zero _)
  | succ k ih =>
    intro x1 x2 x3 I L hR hf hi0 hi1 hi2 hi3 hm
    have hz0 := hi1.symm
    subst hz0
    have hz1 := hi2.symm
    subst hz1
    refine sTape_cutToken_2 o n sh Rf I L post p1 p2 x3 hok hw ?_
    unfold fTape_cutToken_2
    have g_1 : (0 : Int) ≤ (I o 6).toInt ∧ (I o 6).toInt ≤ 1600 := hR.at0 ra 6 (by decide)
    refine ⟨fun c_2 => ?_, fun c_2 => ?_⟩
    · have d_3 := iLe c_2
      unfold fTape_cutToken_36
      refine ⟨tIn (by omega) (by omega), fun I_4 e_5 => ?_⟩
      have hR_6 : RI R I_4 := hR.up ra 4 (by decide) (Or.inl rfl) e_5 (i_lo _) (i_hi _)
      have hf_7 : Fm (fun c => c = o + 3 ∨ c = o + 4 ∨ c = o + 5) I0 I_4 := hf.set (by first | rfl | omega | (dsimp only; omega)) e_5
      have t_8 : (I_4 o 6).toInt = (I o 6).toInt := by rw [← e_5, q_u_ne (by omega)]
      have k_9 : TokX I_4 o p1.toNatClampNeg := hi3.fr (by rw [← e_5]; exact q_u_ne (by omega)) (by rw [← e_5]; exact q_u_ne (by omega))
      have n_10 : (I_4 (o + 3) p1.toNatClampNeg).toInt = (I (o + 3) p1.toNatClampNeg).toInt := by rw [← e_5, q_u_ne (by omega)]
      have l_11 : (-1 : Int32).toInt = -1 := rfl
      refine ⟨tIn (by omega) (by omega), fun I_12 e_13 => ?_⟩
      have hR_14 : RI R I_12 := hR_6.up ra 5 (by decide) (Or.inl rfl) e_13 (i_lo _) (i_hi _)
      have hf_15 : Fm (fun c => c = o + 3 ∨ c = o + 4 ∨ c = o + 5) I0 I_12 := hf_7.set (by first | rfl | omega | (dsimp only; omega)) e_13
      have t_16 : (I_12 o 6).toInt = (I_4 o 6).toInt := by rw [← e_13, q_u_ne (by omega)]
      have k_17 : TokX I_12 o p1.toNatClampNeg := k_9.put5 e_13 (by rfl)
      have n_18 : (I_12 (o + 3) p1.toNatClampNeg).toInt = (I_4 (o + 3) p1.toNatClampNeg).toInt := by rw [← e_13, q_u_ne (by omega)]
      have g_19 : (0 : Int) ≤ (I_12 o 6).toInt ∧ (I_12 o 6).toInt ≤ 1600 := hR_14.at0 ra 6 (by decide)
      refine ⟨fun c_20 => ?_, fun c_20 => ?_⟩
      · have d_21 := iLt c_20
        refine y_Tape_byteAt hok hw ra hR_14 (fun r_22 u_23 => ⟨r_22, I_12, L, rfl, rfl, ?_⟩)
        refine y_Tape_isLetter hok hR_14 (fun r_24 u_25 u_26 => ⟨r_24, I_12, L, rfl, rfl, ?_⟩)
        have b_27 : 0 ≤ r_24.toInt ∧ r_24.toInt ≤ 1 := u_25.rg
        have l_28 : (0 : Int32).toInt = 0 := rfl
        refine ⟨fun c_29 => ?_, fun c_29 => ?_⟩
        · have d_30 := iEq c_29
          refine y_Tape_byteAt hok hw ra hR_14 (fun r_31 u_32 => ⟨r_31, I_12, L, rfl, rfl, ?_⟩)
          have j_33 := iEq (u_32.trans u_23.symm)
          refine y_Tape_isDigit hok hR_14 (fun r_34 u_35 u_36 => ⟨r_34, I_12, L, rfl, rfl, ?_⟩)
          have b_37 : 0 ≤ r_34.toInt ∧ r_34.toInt ≤ 1 := u_35.rg
          refine ⟨fun c_38 => ?_, fun c_38 => ?_⟩
          · have d_39 := iEq c_38
            exact y_cut128 hw ra hR_14 (by omega) (by omega) k_17 (fun r I' hR' ne rr tk => hp r I' _ hR' (hf_15.call (M' := fun c => c = o + 3 ∨ c = o + 5) (fun c hc => ne c (fun q => hc (Or.inl q)) (fun q => hc (Or.inr q))) (fun c hc => by first | (dsimp only at hc ⊢; omega) | omega)) rr tk)
          · have d_40 := iNe c_38
            refine y_Tape_cutNumber hok hw ra (by first | omega | (intro h; omega) | exact Or.inl rfl | exact Or.inr rfl) (by first | omega | (intro h; omega) | exact Or.inl rfl | exact Or.inr rfl) k_17 hR_14 (fun r_41 I_44 L_45 hR_46 fr_47 u_42 u_43 => ⟨r_41, I_44, L_45, rfl, rfl, ?_⟩)
            have hf_48 : Fm (fun c => c = o + 3 ∨ c = o + 4 ∨ c = o + 5) I0 I_44 := hf_15.call fr_47 (fun c hc => by first | exact hc | (dsimp only at hc ⊢; omega) | omega)
            have t_49 : (I_44 o 6).toInt = (I_12 o 6).toInt := by rw [fr_47 o (by first | omega | (dsimp only; omega))]
            exact (hp _ _ _ hR_46 hf_48 (by first | omega | (intro h; omega) | exact Or.inl rfl | exact Or.inr rfl) u_43)
        · have d_50 := iNe c_29
          refine ⟨fun c_51 => ?_, fun c_51 => ?_⟩
          · have d_52 := iEq c_51
            refine y_Tape_cutWord hok hw ra (by first | omega | (intro h; omega) | exact Or.inl rfl | exact Or.inr rfl) (by first | omega | (intro h; omega) | exact Or.inl rfl | exact Or.inr rfl) k_17 hR_14 (fun r_53 I_56 L_57 hR_58 fr_59 u_54 u_55 => ⟨r_53, I_56, L_57, rfl, rfl, ?_⟩)
            have hf_60 : Fm (fun c => c = o + 3 ∨ c = o + 4 ∨ c = o + 5) I0 I_56 := hf_15.call fr_59 (fun c hc => by first | exact hc | (dsimp only at hc ⊢; omega) | omega)
            have t_61 : (I_56 o 6).toInt = (I_12 o 6).toInt := by rw [fr_59 o (by first | omega | (dsimp only; omega))]
            exact (hp _ _ _ hR_58 hf_60 (by first | omega | (intro h; omega) | exact Or.inl rfl | exact Or.inr rfl) u_55)
          · have d_62 := iNe c_51
            refine y_Tape_placeAt hok hw ra hR_14 (fun r_63 u_64 => ⟨r_63, I_12, L, rfl, rfl, ?_⟩)
            refine ⟨fun c_65 => ?_, fun c_65 => ?_⟩
            · have d_66 := iEq c_65
              refine y_Tape_cutWord hok hw ra (by first | omega | (intro h; omega) | exact Or.inl rfl | exact Or.inr rfl) (by first | omega | (intro h; omega) | exact Or.inl rfl | exact Or.inr rfl) k_17 hR_14 (fun r_67 I_70 L_71 hR_72 fr_73 u_68 u_69 => ⟨r_67, I_70, L_71, rfl, rfl, ?_⟩)
              have hf_74 : Fm (fun c => c = o + 3 ∨ c = o + 4 ∨ c = o + 5) I0 I_70 := hf_15.call fr_73 (fun c hc => by first | exact hc | (dsimp only at hc ⊢; omega) | omega)
              have t_75 : (I_70 o 6).toInt = (I_12 o 6).toInt := by rw [fr_73 o (by first | omega | (dsimp only; omega))]
              exact (hp _ _ _ hR_72 hf_74 (by first | omega | (intro h; omega) | exact Or.inl rfl | exact Or.inr rfl) u_69)
            · have d_76 := iNe c_65
              refine y_Tape_cutPlace hok hw ra (by first | omega | (intro h; omega) | exact Or.inl rfl | exact Or.inr rfl) (by first | omega | (intro h; omega) | exact Or.inl rfl | exact Or.inr rfl) (by have pe := u_64; have pr : -1 ≤ r_63.toInt := (by rw [pe]; exact (pl_rg _ _ _).1); rw [← pe]; omega) k_17 hR_14 (fun r_77 I_80 L_81 hR_82 fr_83 u_78 u_79 => ⟨r_77, I_80, L_81, rfl, rfl, ?_⟩)
              have hf_84 : Fm (fun c => c = o + 3 ∨ c = o + 4 ∨ c = o + 5) I0 I_80 := hf_15.call fr_83 (fun c hc => by first | exact hc | (dsimp only at hc ⊢; omega) | omega)
              have t_85 : (I_80 o 6).toInt = (I_12 o 6).toInt := by rw [fr_83 o (by first | omega | (dsimp only; omega))]
              exact (hp _ _ _ hR_82 hf_84 (by first | omega | (intro h; omega) | exact Or.inl rfl | exact Or.inr rfl) u_79)
      · have d_86 := iNlt c_20
        have l_87 : (0 : Int32).toInt = 0 := rfl
        refine ⟨tIn (by omega) (by omega), fun I_88 e_89 => ?_⟩
        have hR_90 : RI R I_88 := hR_14.up ra 3 (by decide) (Or.inl rfl) e_89 (i_lo _) (i_hi _)
        have hf_91 : Fm (fun c => c = o + 3 ∨ c = o + 4 ∨ c = o + 5) I0 I_88 := hf_15.set (by first | rfl | omega | (dsimp only; omega)) e_89
        have t_92 : (I_88 o 6).toInt = (I_12 o 6).toInt := by rw [← e_89, q_u_ne (by omega)]
        have k_93 : TokX I_88 o p1.toNatClampNeg := k_17.put3 e_89 (by rfl)
        have n_94 : (I_88 (o + 3) p1.toNatClampNeg).toInt = (0 : Int32).toInt := by rw [← e_89, q_u_at]
        exact (hp _ _ _ hR_90 hf_91 (by first | omega | (intro h; omega) | exact Or.inl rfl | exact Or.inr rfl) (TokX.all k_93 (by unfold TokAt; exact ⟨fun h => by omega, fun h => by omega⟩)))
    · have d_95 := iNle c_2
      refine y_Tape_byteAt hok hw ra hR (fun r_96 u_97 => ⟨r_96, I, L, rfl, rfl, ?_⟩)
      have l_98 : (32 : Int32).toInt = 32 := rfl
      refine ⟨fun c_99 => ?_, fun c_99 => ?_⟩
      · have d_100 := iEq c_99
        unfold fTape_cutToken_30
        have a_102 : (x3 + Int32.ofInt 1).toInt = x3.toInt + (1) := tIc (by omega) (by omega) (by decide) (by decide)
        generalize ez_101 : (x3 + Int32.ofInt 1) = z_101 at a_102 ⊢
        exact ih hR hf (by first | omega | (intro h; omega) | exact Or.inl rfl | exact Or.inr rfl) rfl rfl hi3 (by omega)
      · have d_103 := iNe c_99
        refine y_Tape_byteAt hok hw ra hR (fun r_104 u_105 => ⟨r_104, I, L, rfl, rfl, ?_⟩)
        have j_106 := iEq (u_105.trans u_97.symm)
        have l_107 : (10 : Int32).toInt = 10 := rfl
        refine ⟨fun c_108 => ?_, fun c_108 => ?_⟩
        · have d_109 := iNe c_108
          unfold fTape_cutToken_36
          refine ⟨tIn (by omega) (by omega), fun I_110 e_111 => ?_⟩
          have hR_112 : RI R I_110 := hR.up ra 4 (by decide) (Or.inl rfl) e_111 (i_lo _) (i_hi _)
          have hf_113 : Fm (fun c => c = o + 3 ∨ c = o + 4 ∨ c = o + 5) I0 I_110 := hf.set (by first | rfl | omega | (dsimp only; omega)) e_111
          have t_114 : (I_110 o 6).toInt = (I o 6).toInt := by rw [← e_111, q_u_ne (by omega)]
          have k_115 : TokX I_110 o p1.toNatClampNeg := hi3.fr (by rw [← e_111]; exact q_u_ne (by omega)) (by rw [← e_111]; exact q_u_ne (by omega))
          have n_116 : (I_110 (o + 3) p1.toNatClampNeg).toInt = (I (o + 3) p1.toNatClampNeg).toInt := by rw [← e_111, q_u_ne (by omega)]
          have l_117 : (-1 : Int32).toInt = -1 := rfl
          refine ⟨tIn (by omega) (by omega), fun I_118 e_119 => ?_⟩
          have hR_120 : RI R I_118 := hR_112.up ra 5 (by decide) (Or.inl rfl) e_119 (i_lo _) (i_hi _)
          have hf_121 : Fm (fun c => c = o + 3 ∨ c = o + 4 ∨ c = o + 5) I0 I_118 := hf_113.set (by first | rfl | omega | (dsimp only; omega)) e_119
          have t_122 : (I_118 o 6).toInt = (I_110 o 6).toInt := by rw [← e_119, q_u_ne (by omega)]
          have k_123 : TokX I_118 o p1.toNatClampNeg := k_115.put5 e_119 (by rfl)
          have n_124 : (I_118 (o + 3) p1.toNatClampNeg).toInt = (I_110 (o + 3) p1.toNatClampNeg).toInt := by rw [← e_119, q_u_ne (by omega)]
          have g_125 : (0 : Int) ≤ (I_118 o 6).toInt ∧ (I_118 o 6).toInt ≤ 1600 := hR_120.at0 ra 6 (by decide)
          refine ⟨fun c_126 => ?_, fun c_126 => ?_⟩
          · have d_127 := iLt c_126
            refine y_Tape_byteAt hok hw ra hR_120 (fun r_128 u_129 => ⟨r_128, I_118, L, rfl, rfl, ?_⟩)
            refine y_Tape_isLetter hok hR_120 (fun r_130 u_131 u_132 => ⟨r_130, I_118, L, rfl, rfl, ?_⟩)
            have b_133 : 0 ≤ r_130.toInt ∧ r_130.toInt ≤ 1 := u_131.rg
            have l_134 : (0 : Int32).toInt = 0 := rfl
            refine ⟨fun c_135 => ?_, fun c_135 => ?_⟩
            · have d_136 := iEq c_135
              refine y_Tape_byteAt hok hw ra hR_120 (fun r_137 u_138 => ⟨r_137, I_118, L, rfl, rfl, ?_⟩)
              have j_139 := iEq (u_138.trans u_129.symm)
              refine y_Tape_isDigit hok hR_120 (fun r_140 u_141 u_142 => ⟨r_140, I_118, L, rfl, rfl, ?_⟩)
              have b_143 : 0 ≤ r_140.toInt ∧ r_140.toInt ≤ 1 := u_141.rg
              refine ⟨fun c_144 => ?_, fun c_144 => ?_⟩
              · have d_145 := iEq c_144
                exact y_cut128 hw ra hR_120 (by omega) (by omega) k_123 (fun r I' hR' ne rr tk => hp r I' _ hR' (hf_121.call (M' := fun c => c = o + 3 ∨ c = o + 5) (fun c hc => ne c (fun q => hc (Or.inl q)) (fun q => hc (Or.inr q))) (fun c hc => by first | (dsimp only at hc ⊢; omega) | omega)) rr tk)
              · have d_146 := iNe c_144
                refine y_Tape_cutNumber hok hw ra (by first | omega | (intro h; omega) | exact Or.inl rfl | exact Or.inr rfl) (by first | omega | (intro h; omega) | exact Or.inl rfl | exact Or.inr rfl) k_123 hR_120 (fun r_147 I_150 L_151 hR_152 fr_153 u_148 u_149 => ⟨r_147, I_150, L_151, rfl, rfl, ?_⟩)
                have hf_154 : Fm (fun c => c = o + 3 ∨ c = o + 4 ∨ c = o + 5) I0 I_150 := hf_121.call fr_153 (fun c hc => by first | exact hc | (dsimp only at hc ⊢; omega) | omega)
                have t_155 : (I_150 o 6).toInt = (I_118 o 6).toInt := by rw [fr_153 o (by first | omega | (dsimp only; omega))]
                exact (hp _ _ _ hR_152 hf_154 (by first | omega | (intro h; omega) | exact Or.inl rfl | exact Or.inr rfl) u_149)
            · have d_156 := iNe c_135
              refine ⟨fun c_157 => ?_, fun c_157 => ?_⟩
              · have d_158 := iEq c_157
                refine y_Tape_cutWord hok hw ra (by first | omega | (intro h; omega) | exact Or.inl rfl | exact Or.inr rfl) (by first | omega | (intro h; omega) | exact Or.inl rfl | exact Or.inr rfl) k_123 hR_120 (fun r_159 I_162 L_163 hR_164 fr_165 u_160 u_161 => ⟨r_159, I_162, L_163, rfl, rfl, ?_⟩)
                have hf_166 : Fm (fun c => c = o + 3 ∨ c = o + 4 ∨ c = o + 5) I0 I_162 := hf_121.call fr_165 (fun c hc => by first | exact hc | (dsimp only at hc ⊢; omega) | omega)
                have t_167 : (I_162 o 6).toInt = (I_118 o 6).toInt := by rw [fr_165 o (by first | omega | (dsimp only; omega))]
                exact (hp _ _ _ hR_164 hf_166 (by first | omega | (intro h; omega) | exact Or.inl rfl | exact Or.inr rfl) u_161)
              · have d_168 := iNe c_157
                refine y_Tape_placeAt hok hw ra hR_120 (fun r_169 u_170 => ⟨r_169, I_118, L, rfl, rfl, ?_⟩)
                refine ⟨fun c_171 => ?_, fun c_171 => ?_⟩
                · have d_172 := iEq c_171
                  refine y_Tape_cutWord hok hw ra (by first | omega | (intro h; omega) | exact Or.inl rfl | exact Or.inr rfl) (by first | omega | (intro h; omega) | exact Or.inl rfl | exact Or.inr rfl) k_123 hR_120 (fun r_173 I_176 L_177 hR_178 fr_179 u_174 u_175 => ⟨r_173, I_176, L_177, rfl, rfl, ?_⟩)
                  have hf_180 : Fm (fun c => c = o + 3 ∨ c = o + 4 ∨ c = o + 5) I0 I_176 := hf_121.call fr_179 (fun c hc => by first | exact hc | (dsimp only at hc ⊢; omega) | omega)
                  have t_181 : (I_176 o 6).toInt = (I_118 o 6).toInt := by rw [fr_179 o (by first | omega | (dsimp only; omega))]
                  exact (hp _ _ _ hR_178 hf_180 (by first | omega | (intro h; omega) | exact Or.inl rfl | exact Or.inr rfl) u_175)
                · have d_182 := iNe c_171
                  refine y_Tape_cutPlace hok hw ra (by first | omega | (intro h; omega) | exact Or.inl rfl | exact Or.inr rfl) (by first | omega | (intro h; omega) | exact Or.inl rfl | exact Or.inr rfl) (by have pe := u_170; have pr : -1 ≤ r_169.toInt := (by rw [pe]; exact (pl_rg _ _ _).1); rw [← pe]; omega) k_123 hR_120 (fun r_183 I_186 L_187 hR_188 fr_189 u_184 u_185 => ⟨r_183, I_186, L_187, rfl, rfl, ?_⟩)
                  have hf_190 : Fm (fun c => c = o + 3 ∨ c = o + 4 ∨ c = o + 5) I0 I_186 := hf_121.call fr_189 (fun c hc => by first | exact hc | (dsimp only at hc ⊢; omega) | omega)
                  have t_191 : (I_186 o 6).toInt = (I_118 o 6).toInt := by rw [fr_189 o (by first | omega | (dsimp only; omega))]
                  exact (hp _ _ _ hR_188 hf_190 (by first | omega | (intro h; omega) | exact Or.inl rfl | exact Or.inr rfl) u_185)
          · have d_192 := iNlt c_126
            have l_193 : (0 : Int32).toInt = 0 := rfl
            refine ⟨tIn (by omega) (by omega), fun I_194 e_195 => ?_⟩
            have hR_196 : RI R I_194 := hR_120.up ra 3 (by decide) (Or.inl rfl) e_195 (i_lo _) (i_hi _)
            have hf_197 : Fm (fun c => c = o + 3 ∨ c = o + 4 ∨ c = o + 5) I0 I_194 := hf_121.set (by first | rfl | omega | (dsimp only; omega)) e_195
            have t_198 : (I_194 o 6).toInt = (I_118 o 6).toInt := by rw [← e_195, q_u_ne (by omega)]
            have k_199 : TokX I_194 o p1.toNatClampNeg := k_123.put3 e_195 (by rfl)
            have n_200 : (I_194 (o + 3) p1.toNatClampNeg).toInt = (0 : Int32).toInt := by rw [← e_195, q_u_at]
            exact (hp _ _ _ hR_196 hf_197 (by first | omega | (intro h; omega) | exact Or.inl rfl | exact Or.inr rfl) (TokX.all k_199 (by unfold TokAt; exact ⟨fun h => by omega, fun h => by omega⟩)))
        · have d_201 := iEq c_108
          unfold fTape_cutToken_30
          have a_203 : (x3 + Int32.ofInt 1).toInt = x3.toInt + (1) := tIc (by omega) (by omega) (by decide) (by decide)
          generalize ez_202 : (x3 + Int32.ofInt 1) = z_202 at a_203 ⊢
          exact ih hR hf (by first | omega | (intro h; omega) | exact Or.inl rfl | exact Or.inr rfl) rfl rfl hi3 (by omega)
set_option maxHeartbeats 4000000 in
set_option maxRecDepth 20000 in
theorem y_Tape_cutToken {D : va_G} {cA : FieldType → ClassId} {b : Nat} {kS vS : Nat → Nat} {xb xl : Nat} {xs : Nat → Int32} {R : qRg} {o n : Nat} {sh : Nat → qC} {Rf : Nat → Nat → Option Nat} {I0 : Nat → Nat → Int32} {L0 : Nat → Nat → Int64} {post : Option Value → qS → Prop} {p1 : Int32} {p2 : Int32} (hok : q_ok (qGG D cA b (qEx b kS vS xb xl xs))) (hw : WfTape (qGG D cA b (qEx b kS vS xb xl xs)) n sh Rf o) (ra : RATape R o) (hq0 : (0 : Int) ≤ p1.toInt ∧ p1.toInt ≤ 1600) (hq1 : (0 : Int) ≤ p2.toInt ∧ p2.toInt ≤ 1603) (hq2 : TokOK I0 o) (hR : RI R I0) (hp : ∀ (r : Int32) (I' : Nat → Nat → Int32) (L' : Nat → Nat → Int64), RI R I' → Fm (fun c => c = o + 3 ∨ c = o + 4 ∨ c = o + 5) I0 I' → (((0 : Int) ≤ r.toInt ∧ r.toInt ≤ 1603)) → (TokOK I' o) → post (some (.int r)) (n, sh, Rf, I', L')) : Ev (qGG D cA b (qEx b kS vS xb xl xs)) mTape_cutToken 8 (0, 0) 0 (lv_args 0 [.ref o, .int p1, .int p2]) [] (n, sh, Rf, I0, L0) post := by
  have hf : Fm (fun c => c = o + 3 ∨ c = o + 4 ∨ c = o + 5) I0 I0 := Fm.rf
  refine sTape_cutToken_0 o n sh Rf I0 L0 post p1 p2 hok hw ?_
  unfold fTape_cutToken_0
  have k_204 : TokX I0 o p1.toNatClampNeg := by exact hq2.but _
  exact yTape_cutToken_2 (I0 := I0) (L0 := L0) (p1 := p1) (p2 := p2) hok hw ra hq0 hq1 hq2 hp  _ hR hf (by first | omega | (intro h; omega) | exact Or.inl rfl | exact Or.inr rfl) rfl rfl k_204 (Nat.lt_succ_self _)
set_option maxHeartbeats 4000000 in
set_option maxRecDepth 20000 in
theorem yTape_startReading_22 {D : va_G} {cA : FieldType → ClassId} {b : Nat} {kS vS : Nat → Nat} {xb xl : Nat} {xs : Nat → Int32} {R : qRg} {o n : Nat} {sh : Nat → qC} {Rf : Nat → Nat → Option Nat} {I0 : Nat → Nat → Int32} {L0 : Nat → Nat → Int64} {post : Option Value → qS → Prop} {p1 : Int32} (hok : q_ok (qGG D cA b (qEx b kS vS xb xl xs))) (hw : WfTape (qGG D cA b (qEx b kS vS xb xl xs)) n sh Rf o) (ra : RATape R o) (hq0 : p1 = 0 ∨ p1 = 1) (hq1 : TokOK I0 o) (hp : ∀ (I' : Nat → Nat → Int32) (L' : Nat → Nat → Int64), RI R I' → Fm (fun c => (o ≤ c ∧ c < o + 7)) I0 I' → (TokOK I' o) → post none (n, sh, Rf, I', L')) : ∀ (k : Nat) {x1 : Int32} {x2 : Int32} {x3 : Int32} {x4 : Int32} {I : Nat → Nat → Int32} {L : Nat → Nat → Int64}, RI R I → Fm (fun c => (o ≤ c ∧ c < o + 7)) I0 I → ((0 : Int) ≤ x2.toInt ∧ x2.toInt ≤ 1603) → ((0 : Int) ≤ x4.toInt ∧ x4.toInt ≤ 1601) → (TokOK I o) → (1601 - x4.toInt).toNat < k → Ev (qGG D cA b (qEx b kS vS xb xl xs)) mTape_startReading 9 (0, 0) 22 [(0, .ref o), (1, .int x1), (2, .int x2), (3, .int x3), (4, .int x4)] [] (n, sh, Rf, I, L) post := by
  intro k
  induction k with
  | zero =>
    intro x1 x2 x3 x4 I L hR hf hi0 hi1 hi2 hm
    exact absurd hm (Nat.not_lt_zero _)
  | succ k ih =>
    intro x1 x2 x3 x4 I L hR hf hi0 hi1 hi2 hm
    refine sTape_startReading_22 o n sh Rf I L post x1 x2 x3 x4 hok hw ?_
    unfold fTape_startReading_22
    have l_1 : (1601 : Int32).toInt = 1601 := rfl
    refine ⟨fun c_2 => ?_, fun c_2 => ?_⟩
    · have d_3 := iLe c_2
      have l_4 : (0 : Int32).toInt = 0 := rfl
      refine fun I_5 e_6 => ?_
      have hR_7 : RI R I_5 := hR.up0 (k := 10) ra (by decide) (Or.inl rfl) e_6 (show (0 : Int) ≤ (0 : Int32).toInt by omega) (show (0 : Int32).toInt ≤ (1600 : Int) by omega)
      have hf_8 : Fm (fun c => (o ≤ c ∧ c < o + 7)) I0 I_5 := hf.set (by first | rfl | omega | (dsimp only; omega)) e_6
      have t_9 : (I_5 o 10).toInt = (0 : Int32).toInt := by rw [← e_6, q_u_at]
      have k_10 : TokOK I_5 o := hi2.fr (by rw [← e_6]; exact q_u_ne (by omega)) (by rw [← e_6]; exact q_u_ne (by omega))
      exact (hp _ _ hR_7 hf_8  k_10)
    · have d_11 := iNle c_2
      have l_12 : (0 : Int32).toInt = 0 := rfl
      refine ⟨fun c_13 => ?_, fun c_13 => ?_⟩
      · have d_14 := iEq c_13
        refine fun I_15 e_16 => ?_
        have hR_17 : RI R I_15 := hR.up0 (k := 10) ra (by decide) (Or.inl rfl) e_16 (show (0 : Int) ≤ (0 : Int32).toInt by omega) (show (0 : Int32).toInt ≤ (1600 : Int) by omega)
        have hf_18 : Fm (fun c => (o ≤ c ∧ c < o + 7)) I0 I_15 := hf.set (by first | rfl | omega | (dsimp only; omega)) e_16
        have t_19 : (I_15 o 10).toInt = (0 : Int32).toInt := by rw [← e_16, q_u_at]
        have k_20 : TokOK I_15 o := hi2.fr (by rw [← e_16]; exact q_u_ne (by omega)) (by rw [← e_16]; exact q_u_ne (by omega))
        exact (hp _ _ hR_17 hf_18  k_20)
      · have d_21 := iNe c_13
        refine y_Tape_cutToken hok hw ra (by first | omega | (intro h; omega) | exact Or.inl rfl | exact Or.inr rfl) (by first | omega | (intro h; omega) | exact Or.inl rfl | exact Or.inr rfl) hi2 hR (fun r_22 I_25 L_26 hR_27 fr_28 u_23 u_24 => ⟨r_22, I_25, L_26, rfl, rfl, ?_⟩)
        have hf_29 : Fm (fun c => (o ≤ c ∧ c < o + 7)) I0 I_25 := hf.call fr_28 (fun c hc => by first | exact hc | (dsimp only at hc ⊢; omega) | omega)
        refine ⟨tIn (by omega) (by omega), ?_⟩
        refine ⟨fun c_30 => ?_, fun c_30 => ?_⟩
        · have d_31 := iEq c_30
          unfold fTape_startReading_67
          unfold fTape_startReading_68
          have a_33 : (x4 + Int32.ofInt 1).toInt = x4.toInt + (1) := tIc (by omega) (by omega) (by decide) (by decide)
          generalize ez_32 : (x4 + Int32.ofInt 1) = z_32 at a_33 ⊢
          exact ih hR_27 hf_29 (by first | omega | (intro h; omega) | exact Or.inl rfl | exact Or.inr rfl) (by first | omega | (intro h; omega) | exact Or.inl rfl | exact Or.inr rfl) u_24 (by omega)
        · have d_34 := iNe c_30
          refine ⟨tIn (by omega) (by omega), ?_⟩
          have l_35 : (5 : Int32).toInt = 5 := rfl
          refine ⟨fun c_36 => ?_, fun c_36 => ?_⟩
          · have d_37 := iEq c_36
            unfold fTape_startReading_67
            unfold fTape_startReading_68
            have a_39 : (x4 + Int32.ofInt 1).toInt = x4.toInt + (1) := tIc (by omega) (by omega) (by decide) (by decide)
            generalize ez_38 : (x4 + Int32.ofInt 1) = z_38 at a_39 ⊢
            exact ih hR_27 hf_29 (by first | omega | (intro h; omega) | exact Or.inl rfl | exact Or.inr rfl) (by first | omega | (intro h; omega) | exact Or.inl rfl | exact Or.inr rfl) u_24 (by omega)
          · have d_40 := iNe c_36
            unfold fTape_startReading_68
            have l_41 : (1 : Int32).toInt = 1 := rfl
            have a_43 : (x4 + Int32.ofInt 1).toInt = x4.toInt + (1) := tIc (by omega) (by omega) (by decide) (by decide)
            generalize ez_42 : (x4 + Int32.ofInt 1) = z_42 at a_43 ⊢
            exact ih hR_27 hf_29 (by first | omega | (intro h; omega) | exact Or.inl rfl | exact Or.inr rfl) (by first | omega | (intro h; omega) | exact Or.inl rfl | exact Or.inr rfl) u_24 (by omega)
set_option maxHeartbeats 4000000 in
set_option maxRecDepth 20000 in
theorem y_Tape_startReading {D : va_G} {cA : FieldType → ClassId} {b : Nat} {kS vS : Nat → Nat} {xb xl : Nat} {xs : Nat → Int32} {R : qRg} {o n : Nat} {sh : Nat → qC} {Rf : Nat → Nat → Option Nat} {I0 : Nat → Nat → Int32} {L0 : Nat → Nat → Int64} {post : Option Value → qS → Prop} {p1 : Int32} (hok : q_ok (qGG D cA b (qEx b kS vS xb xl xs))) (hw : WfTape (qGG D cA b (qEx b kS vS xb xl xs)) n sh Rf o) (ra : RATape R o) (hq0 : p1 = 0 ∨ p1 = 1) (hq1 : TokOK I0 o) (hR : RI R I0) (hp : ∀ (I' : Nat → Nat → Int32) (L' : Nat → Nat → Int64), RI R I' → Fm (fun c => (o ≤ c ∧ c < o + 7)) I0 I' → (TokOK I' o) → post none (n, sh, Rf, I', L')) : Ev (qGG D cA b (qEx b kS vS xb xl xs)) mTape_startReading 9 (0, 0) 0 (lv_args 0 [.ref o, .int p1]) [] (n, sh, Rf, I0, L0) post := by
  have hf : Fm (fun c => (o ≤ c ∧ c < o + 7)) I0 I0 := Fm.rf
  refine sTape_startReading_0 o n sh Rf I0 L0 post p1 hok hw ?_
  unfold fTape_startReading_0
  refine ⟨hq0, fun I_44 e_45 => ?_⟩
  have hR_46 : RI R I_44 := hR.up0 (k := 9) ra (by decide) (Or.inl rfl) e_45 (i_lo _) (i_hi _)
  have hf_47 : Fm (fun c => (o ≤ c ∧ c < o + 7)) I0 I_44 := hf.set (by first | rfl | omega | (dsimp only; omega)) e_45
  have k_48 : TokOK I_44 o := hq1.fr (by rw [← e_45]; exact q_u_ne (by omega)) (by rw [← e_45]; exact q_u_ne (by omega))
  have l_49 : (0 : Int32).toInt = 0 := rfl
  refine fun I_50 e_51 => ?_
  have hR_52 : RI R I_50 := hR_46.up0 (k := 7) ra (by decide) (Or.inl rfl) e_51 (show (0 : Int) ≤ (0 : Int32).toInt by omega) (show (0 : Int32).toInt ≤ (5 : Int) by omega)
  have hf_53 : Fm (fun c => (o ≤ c ∧ c < o + 7)) I0 I_50 := hf_47.set (by first | rfl | omega | (dsimp only; omega)) e_51
  have t_54 : (I_50 o 7).toInt = (0 : Int32).toInt := by rw [← e_51, q_u_at]
  have k_55 : TokOK I_50 o := k_48.fr (by rw [← e_51]; exact q_u_ne (by omega)) (by rw [← e_51]; exact q_u_ne (by omega))
  have l_56 : (-1 : Int32).toInt = -1 := rfl
  refine fun I_57 e_58 => ?_
  have hR_59 : RI R I_57 := hR_52.up0 (k := 8) ra (by decide) (Or.inl rfl) e_58 (i_lo _) (i_hi _)
  have hf_60 : Fm (fun c => (o ≤ c ∧ c < o + 7)) I0 I_57 := hf_53.set (by first | rfl | omega | (dsimp only; omega)) e_58
  have t_61 : (I_57 o 7).toInt = (I_50 o 7).toInt := by rw [← e_58, q_u_k (by decide)]
  have k_62 : TokOK I_57 o := k_55.fr (by rw [← e_58]; exact q_u_ne (by omega)) (by rw [← e_58]; exact q_u_ne (by omega))
  have l_63 : (1 : Int32).toInt = 1 := rfl
  exact yTape_startReading_22 (I0 := I0) (L0 := L0) (p1 := p1) hok hw ra hq0 hq1 hp  _ hR_59 hf_60 (by first | omega | (intro h; omega) | exact Or.inl rfl | exact Or.inr rfl) (by first | omega | (intro h; omega) | exact Or.inl rfl | exact Or.inr rfl) k_62 (Nat.lt_succ_self _)
set_option maxHeartbeats 4000000 in
set_option maxRecDepth 20000 in
theorem yLand_read_11 {D : va_G} {cA : FieldType → ClassId} {b : Nat} {kS vS : Nat → Nat} {xb xl : Nat} {xs : Nat → Int32} {R : qRg} {o n : Nat} {sh : Nat → qC} {Rf : Nat → Nat → Option Nat} {I0 : Nat → Nat → Int32} {L0 : Nat → Nat → Int64} {post : Option Value → qS → Prop} {x1 : Nat} (hok : q_ok (qGG D cA b (qEx b kS vS xb xl xs))) (hw : WfLand (qGG D cA b (qEx b kS vS xb xl xs)) n sh Rf o) (ra : RALand R o) (hw1 : WfTape (qGG D cA b (qEx b kS vS xb xl xs)) n sh Rf x1) (ra1 : RATape R x1) (hs0 : o + 16 ≤ x1 ∨ x1 + 7 ≤ o) (hq0 : TokOK I0 x1) (hp : ∀ (r : Int32) (I' : Nat → Nat → Int32) (L' : Nat → Nat → Int64), RI R I' → Fm (fun c => (o ≤ c ∧ c < o + 16) ∨ (x1 ≤ c ∧ c < x1 + 7)) I0 I' → (Bz r) → (TokOK I' x1) → post (some (.int r)) (n, sh, Rf, I', L')) : ∀ (k : Nat) {x2 : Int32} {I : Nat → Nat → Int32} {L : Nat → Nat → Int64}, RI R I → Fm (fun c => (o ≤ c ∧ c < o + 16) ∨ (x1 ≤ c ∧ c < x1 + 7)) I0 I → ((0 : Int) ≤ x2.toInt ∧ x2.toInt ≤ 1600) → (TokOK I x1) → (1600 - x2.toInt).toNat < k → Ev (qGG D cA b (qEx b kS vS xb xl xs)) mLand_read 10 (0, 0) 11 [(0, .ref o), (1, .ref x1), (2, .int x2)] [] (n, sh, Rf, I, L) post := by
  intro k
  induction k with
  | zero =>
    intro x2 I L hR hf hi0 hi1 hm
    exact absurd hm (Nat.not_lt_zero _)
  | succ k ih =>
    intro x2 I L hR hf hi0 hi1 hm
    refine sLand_read_11 o n sh Rf I L post x1 x2 hok hw hw1 ?_
    unfold fLand_read_11
    have l_1 : (1600 : Int32).toInt = 1600 := rfl
    refine ⟨fun c_2 => ?_, fun c_2 => ?_⟩
    · have d_3 := iLe c_2
      refine y_Land_shortenWays hok hw ra hR (fun I_5 L_6 hR_7 fr_8  => ⟨I_5, L_6, rfl, rfl, ?_⟩)
      have hf_9 : Fm (fun c => (o ≤ c ∧ c < o + 16) ∨ (x1 ≤ c ∧ c < x1 + 7)) I0 I_5 := hf.call fr_8 (fun c hc => by first | exact hc | (dsimp only at hc ⊢; omega) | omega)
      have k_10 : TokOK I_5 x1 := hi1.fr (fr_8 _ (by first | omega | (dsimp only; omega))) (fr_8 _ (by first | omega | (dsimp only; omega)))
      have l_11 : (1 : Int32).toInt = 1 := rfl
      exact (hp _ _ _ hR_7 hf_9 (Or.inr rfl) k_10)
    · have d_12 := iNle c_2
      refine y_Tape_atEnd hok hw1 ra1 hR (fun r_13 u_14 => ⟨r_13, I, L, rfl, rfl, ?_⟩)
      have b_15 : 0 ≤ r_13.toInt ∧ r_13.toInt ≤ 1 := u_14.rg
      have l_16 : (0 : Int32).toInt = 0 := rfl
      refine ⟨fun c_17 => ?_, fun c_17 => ?_⟩
      · have d_18 := iNe c_17
        refine y_Land_shortenWays hok hw ra hR (fun I_20 L_21 hR_22 fr_23  => ⟨I_20, L_21, rfl, rfl, ?_⟩)
        have hf_24 : Fm (fun c => (o ≤ c ∧ c < o + 16) ∨ (x1 ≤ c ∧ c < x1 + 7)) I0 I_20 := hf.call fr_23 (fun c hc => by first | exact hc | (dsimp only at hc ⊢; omega) | omega)
        have k_25 : TokOK I_20 x1 := hi1.fr (fr_23 _ (by first | omega | (dsimp only; omega))) (fr_23 _ (by first | omega | (dsimp only; omega)))
        have l_26 : (1 : Int32).toInt = 1 := rfl
        exact (hp _ _ _ hR_22 hf_24 (Or.inr rfl) k_25)
      · have d_27 := iEq c_17
        refine y_Land_readLine hok hw ra hw1 ra1 (by first | omega | (intro h; omega) | exact Or.inl rfl | exact Or.inr rfl) hi1 hR (fun r_28 I_30 L_31 hR_32 fr_33 u_29 => ⟨r_28, I_30, L_31, rfl, rfl, ?_⟩)
        have hf_34 : Fm (fun c => (o ≤ c ∧ c < o + 16) ∨ (x1 ≤ c ∧ c < x1 + 7)) I0 I_30 := hf.call fr_33 (fun c hc => by first | exact hc | (dsimp only at hc ⊢; omega) | omega)
        have k_35 : TokOK I_30 x1 := hi1.fr (fr_33 _ (by first | omega | (dsimp only; omega))) (fr_33 _ (by first | omega | (dsimp only; omega)))
        have b_36 : 0 ≤ r_28.toInt ∧ r_28.toInt ≤ 1 := u_29.rg
        refine ⟨fun c_37 => ?_, fun c_37 => ?_⟩
        · have d_38 := iNe c_37
          have a_40 : (x2 + Int32.ofInt 1).toInt = x2.toInt + (1) := tIc (by omega) (by omega) (by decide) (by decide)
          generalize ez_39 : (x2 + Int32.ofInt 1) = z_39 at a_40 ⊢
          exact ih hR_32 hf_34 (by first | omega | (intro h; omega) | exact Or.inl rfl | exact Or.inr rfl) k_35 (by omega)
        · have d_41 := iEq c_37
          exact (hp _ _ _ hR_32 hf_34 (Or.inl rfl) k_35)
set_option maxHeartbeats 4000000 in
set_option maxRecDepth 20000 in
theorem y_Land_read {D : va_G} {cA : FieldType → ClassId} {b : Nat} {kS vS : Nat → Nat} {xb xl : Nat} {xs : Nat → Int32} {R : qRg} {o n : Nat} {sh : Nat → qC} {Rf : Nat → Nat → Option Nat} {I0 : Nat → Nat → Int32} {L0 : Nat → Nat → Int64} {post : Option Value → qS → Prop} {x1 : Nat} (hok : q_ok (qGG D cA b (qEx b kS vS xb xl xs))) (hw : WfLand (qGG D cA b (qEx b kS vS xb xl xs)) n sh Rf o) (ra : RALand R o) (hw1 : WfTape (qGG D cA b (qEx b kS vS xb xl xs)) n sh Rf x1) (ra1 : RATape R x1) (hs0 : o + 16 ≤ x1 ∨ x1 + 7 ≤ o) (hq0 : TokOK I0 x1) (hR : RI R I0) (hp : ∀ (r : Int32) (I' : Nat → Nat → Int32) (L' : Nat → Nat → Int64), RI R I' → Fm (fun c => (o ≤ c ∧ c < o + 16) ∨ (x1 ≤ c ∧ c < x1 + 7)) I0 I' → (Bz r) → (TokOK I' x1) → post (some (.int r)) (n, sh, Rf, I', L')) : Ev (qGG D cA b (qEx b kS vS xb xl xs)) mLand_read 10 (0, 0) 0 (lv_args 0 [.ref o, .ref x1]) [] (n, sh, Rf, I0, L0) post := by
  have hf : Fm (fun c => (o ≤ c ∧ c < o + 16) ∨ (x1 ≤ c ∧ c < x1 + 7)) I0 I0 := Fm.rf
  refine sLand_read_0 o n sh Rf I0 L0 post x1 hok hw hw1 ?_
  unfold fLand_read_0
  refine y_Land_clear hok hw ra hR (fun I_43 L_44 hR_45 fr_46  => ⟨I_43, L_44, rfl, rfl, ?_⟩)
  have hf_47 : Fm (fun c => (o ≤ c ∧ c < o + 16) ∨ (x1 ≤ c ∧ c < x1 + 7)) I0 I_43 := hf.call fr_46 (fun c hc => by first | exact hc | (dsimp only at hc ⊢; omega) | omega)
  have k_48 : TokOK I_43 x1 := hq0.fr (fr_46 _ (by first | omega | (dsimp only; omega))) (fr_46 _ (by first | omega | (dsimp only; omega)))
  have l_49 : (1 : Int32).toInt = 1 := rfl
  refine y_Tape_startReading hok hw1 ra1 (by first | omega | (intro h; omega) | exact Or.inl rfl | exact Or.inr rfl) k_48 hR_45 (fun I_52 L_53 hR_54 fr_55 u_51 => ⟨I_52, L_53, rfl, rfl, ?_⟩)
  have hf_56 : Fm (fun c => (o ≤ c ∧ c < o + 16) ∨ (x1 ≤ c ∧ c < x1 + 7)) I0 I_52 := hf_47.call fr_55 (fun c hc => by first | exact hc | (dsimp only at hc ⊢; omega) | omega)
  have l_57 : (0 : Int32).toInt = 0 := rfl
  exact yLand_read_11 (I0 := I0) (L0 := L0) hok hw ra hw1 ra1 hs0 hq0 hp  _ hR_54 hf_56 (by first | omega | (intro h; omega) | exact Or.inl rfl | exact Or.inr rfl) u_51 (Nat.lt_succ_self _)
