/-! Safety of the reference, numeral and newName: by program (spec.py). -/
set_option maxHeartbeats 4000000 in
set_option maxRecDepth 20000 in
theorem y_Model_numeral {D : va_G} {cA : FieldType → ClassId} {b : Nat} {E : State → Prop} {R : qRg} {o n : Nat} {sh : Nat → qC} {Rf : Nat → Nat → Option Nat} {I0 : Nat → Nat → Int32} {L0 : Nat → Nat → Int64} {post : Option Value → qS → Prop} {p1 : Int32} {p2 : Int32} (hok : q_ok (qGG D cA b E)) (hw : WfModel (qGG D cA b E) n sh Rf o) (ra : RAModel R o) (hq0 : (I0 o 7).toInt ≤ (I0 o 3).toInt) (hq1 : Im ((I0 o 8).toInt = 5) (0 ≤ (I0 o 9).toInt ∧ (I0 o 9).toInt ≤ 15)) (hR : RI R I0) (hp : ∀ (r : Int32) (I' : Nat → Nat → Int32) (L' : Nat → Nat → Int64), RI R I' → Fm (fun c => c = o) I0 I' → ((I' o 7).toInt ≤ (I' o 3).toInt) → ((I0 o 7).toInt ≤ (I' o 7).toInt) → (Im ((I' o 8).toInt = 5) (0 ≤ (I' o 9).toInt ∧ (I' o 9).toInt ≤ 15)) → (Im ((I0 o 4).toInt ≠ 0) ((I' o 4).toInt ≠ 0)) → ((I' o 3).toInt = (I0 o 3).toInt) → ((I' o 44).toInt = (I0 o 44).toInt) → ((I' o 45).toInt = (I0 o 45).toInt) → ((I' o 46).toInt = (I0 o 46).toInt) → ((I' o 47).toInt = (I0 o 47).toInt) → ((I' o 48).toInt = (I0 o 48).toInt) → ((I' o 49).toInt = (I0 o 49).toInt) → post (some (.int r)) (n, sh, Rf, I', L')) : Ev (qGG D cA b E) mModel_numeral 3 (0, 0) 0 (lv_args 0 [.ref o, .int p1, .int p2]) [] (n, sh, Rf, I0, L0) post := by
  have hf : Fm (fun c => c = o) I0 I0 := Fm.rf
  have g_1 : (0 : Int) ≤ (I0 o 7).toInt ∧ (I0 o 7).toInt ≤ 1601 := hR.at0 ra 7 (by decide)
  have g_2 : (0 : Int) ≤ (I0 o 3).toInt ∧ (I0 o 3).toInt ≤ 1600 := hR.at0 ra 3 (by decide)
  refine sModel_numeral_0 o n sh Rf I0 L0 post p1 p2 hok hw ?_
  unfold fModel_numeral_0
  refine y_Model_isGood hok hw ra hR (fun r_3 u_4 u_5 u_6 => ⟨r_3, I0, L0, rfl, rfl, ?_⟩)
  have b_7 : 0 ≤ r_3.toInt ∧ r_3.toInt ≤ 1 := u_4.rg
  have l_8 : (0 : Int32).toInt = 0 := rfl
  refine ⟨fun c_9 => ?_, fun c_9 => ?_⟩
  · have d_10 := iNe c_9
    have gd := u_5 (by omega)
    have l_11 : (4 : Int32).toInt = 4 := rfl
    refine ⟨fun c_12 => ?_, fun c_12 => ?_⟩
    · have d_13 := iEq c_12
      unfold fModel_numeral_21
      refine y_Model_isGood hok hw ra hR (fun r_14 u_15 u_16 u_17 => ⟨r_14, I0, L0, rfl, rfl, ?_⟩)
      have b_18 : 0 ≤ r_14.toInt ∧ r_14.toInt ≤ 1 := u_15.rg
      refine ⟨fun c_19 => ?_, fun c_19 => ?_⟩
      · have d_20 := iEq c_19
        unfold fModel_numeral_53
        refine y_Model_isGood hok hw ra hR (fun r_21 u_22 u_23 u_24 => ⟨r_21, I0, L0, rfl, rfl, ?_⟩)
        have b_25 : 0 ≤ r_21.toInt ∧ r_21.toInt ≤ 1 := u_22.rg
        refine ⟨fun c_26 => ?_, fun c_26 => ?_⟩
        · have d_27 := iEq c_26
          unfold fModel_numeral_69
          refine y_Model_isGood hok hw ra hR (fun r_28 u_29 u_30 u_31 => ⟨r_28, I0, L0, rfl, rfl, ?_⟩)
          have b_32 : 0 ≤ r_28.toInt ∧ r_28.toInt ≤ 1 := u_29.rg
          refine ⟨fun c_33 => ?_, fun c_33 => ?_⟩
          · have d_34 := iEq c_33
            exact (hp _ _ _ hR hf (by first | omega | (intro h; omega) | exact Or.inl rfl | exact Or.inr rfl) (by first | omega | (intro h; omega) | exact Or.inl rfl | exact Or.inr rfl) (by first | assumption | (intro h; have q := hq1 (by omega); omega)) (by first | assumption | (intro h; omega) | (intro h; simp only [Im] at *; omega)) (by first | omega | (intro h; omega) | exact Or.inl rfl | exact Or.inr rfl) (by first | omega | (intro h; omega) | exact Or.inl rfl | exact Or.inr rfl) (by first | omega | (intro h; omega) | exact Or.inl rfl | exact Or.inr rfl) (by first | omega | (intro h; omega) | exact Or.inl rfl | exact Or.inr rfl) (by first | omega | (intro h; omega) | exact Or.inl rfl | exact Or.inr rfl) (by first | omega | (intro h; omega) | exact Or.inl rfl | exact Or.inr rfl) (by first | omega | (intro h; omega) | exact Or.inl rfl | exact Or.inr rfl))
          · have d_35 := iNe c_33
            exact (hp _ _ _ hR hf (by first | omega | (intro h; omega) | exact Or.inl rfl | exact Or.inr rfl) (by first | omega | (intro h; omega) | exact Or.inl rfl | exact Or.inr rfl) (by first | assumption | (intro h; have q := hq1 (by omega); omega)) (by first | assumption | (intro h; omega) | (intro h; simp only [Im] at *; omega)) (by first | omega | (intro h; omega) | exact Or.inl rfl | exact Or.inr rfl) (by first | omega | (intro h; omega) | exact Or.inl rfl | exact Or.inr rfl) (by first | omega | (intro h; omega) | exact Or.inl rfl | exact Or.inr rfl) (by first | omega | (intro h; omega) | exact Or.inl rfl | exact Or.inr rfl) (by first | omega | (intro h; omega) | exact Or.inl rfl | exact Or.inr rfl) (by first | omega | (intro h; omega) | exact Or.inl rfl | exact Or.inr rfl) (by first | omega | (intro h; omega) | exact Or.inl rfl | exact Or.inr rfl))
        · have d_36 := iNe c_26
          refine y_Model_next hok hw ra (by first | omega | (intro h; omega) | exact Or.inl rfl | exact Or.inr rfl) hR (fun I_50 L_51 hR_52 fr_53 u_38 u_39 u_40 u_41 u_42 u_43 u_44 u_45 u_46 u_47 u_48 u_49 => ⟨I_50, L_51, rfl, rfl, ?_⟩)
          have hf_54 : Fm (fun c => c = o) I0 I_50 := hf.call fr_53 (fun c hc => by first | exact hc | (dsimp only at hc ⊢; omega) | omega)
          have g_55 : (0 : Int) ≤ (I_50 o 7).toInt ∧ (I_50 o 7).toInt ≤ 1601 := hR_52.at0 ra 7 (by decide)
          have g_56 : (0 : Int) ≤ (I_50 o 3).toInt ∧ (I_50 o 3).toInt ≤ 1600 := hR_52.at0 ra 3 (by decide)
          unfold fModel_numeral_69
          refine y_Model_isGood hok hw ra hR_52 (fun r_57 u_58 u_59 u_60 => ⟨r_57, I_50, L_51, rfl, rfl, ?_⟩)
          have b_61 : 0 ≤ r_57.toInt ∧ r_57.toInt ≤ 1 := u_58.rg
          refine ⟨fun c_62 => ?_, fun c_62 => ?_⟩
          · have d_63 := iEq c_62
            exact (hp _ _ _ hR_52 hf_54 (by first | omega | (intro h; omega) | exact Or.inl rfl | exact Or.inr rfl) (by first | omega | (intro h; omega) | exact Or.inl rfl | exact Or.inr rfl) (by first | assumption | (intro h; have q := hq1 (by omega); omega)) (by first | assumption | (intro h; omega) | (intro h; simp only [Im] at *; omega)) (by first | omega | (intro h; omega) | exact Or.inl rfl | exact Or.inr rfl) (by first | omega | (intro h; omega) | exact Or.inl rfl | exact Or.inr rfl) (by first | omega | (intro h; omega) | exact Or.inl rfl | exact Or.inr rfl) (by first | omega | (intro h; omega) | exact Or.inl rfl | exact Or.inr rfl) (by first | omega | (intro h; omega) | exact Or.inl rfl | exact Or.inr rfl) (by first | omega | (intro h; omega) | exact Or.inl rfl | exact Or.inr rfl) (by first | omega | (intro h; omega) | exact Or.inl rfl | exact Or.inr rfl))
          · have d_64 := iNe c_62
            exact (hp _ _ _ hR_52 hf_54 (by first | omega | (intro h; omega) | exact Or.inl rfl | exact Or.inr rfl) (by first | omega | (intro h; omega) | exact Or.inl rfl | exact Or.inr rfl) (by first | assumption | (intro h; have q := hq1 (by omega); omega)) (by first | assumption | (intro h; omega) | (intro h; simp only [Im] at *; omega)) (by first | omega | (intro h; omega) | exact Or.inl rfl | exact Or.inr rfl) (by first | omega | (intro h; omega) | exact Or.inl rfl | exact Or.inr rfl) (by first | omega | (intro h; omega) | exact Or.inl rfl | exact Or.inr rfl) (by first | omega | (intro h; omega) | exact Or.inl rfl | exact Or.inr rfl) (by first | omega | (intro h; omega) | exact Or.inl rfl | exact Or.inr rfl) (by first | omega | (intro h; omega) | exact Or.inl rfl | exact Or.inr rfl) (by first | omega | (intro h; omega) | exact Or.inl rfl | exact Or.inr rfl))
      · have d_65 := iNe c_19
        refine ⟨fun c_66 => ?_, fun c_66 => ?_⟩
        · have d_67 := iLt c_66
          unfold fModel_numeral_44
          have g_68 : (0 : Int) ≤ (I0 o 6).toInt ∧ (I0 o 6).toInt ≤ 1600 := hR.at0 ra 6 (by decide)
          refine y_Model_fails hok hw ra (by first | omega | (intro h; omega) | exact Or.inl rfl | exact Or.inr rfl) hR (fun I_84 L_85 hR_86 fr_87 u_70 u_71 u_72 u_73 u_74 u_75 u_76 u_77 u_78 u_79 u_80 u_81 u_82 u_83 => ⟨I_84, L_85, rfl, rfl, ?_⟩)
          have hf_88 : Fm (fun c => c = o) I0 I_84 := hf.call fr_87 (fun c hc => by first | exact hc | (dsimp only at hc ⊢; omega) | omega)
          have g_89 : (0 : Int) ≤ (I_84 o 7).toInt ∧ (I_84 o 7).toInt ≤ 1601 := hR_86.at0 ra 7 (by decide)
          have g_90 : (0 : Int) ≤ (I_84 o 3).toInt ∧ (I_84 o 3).toInt ≤ 1600 := hR_86.at0 ra 3 (by decide)
          have g_91 : (0 : Int) ≤ (I_84 o 6).toInt ∧ (I_84 o 6).toInt ≤ 1600 := hR_86.at0 ra 6 (by decide)
          unfold fModel_numeral_53
          refine y_Model_isGood hok hw ra hR_86 (fun r_92 u_93 u_94 u_95 => ⟨r_92, I_84, L_85, rfl, rfl, ?_⟩)
          have b_96 : 0 ≤ r_92.toInt ∧ r_92.toInt ≤ 1 := u_93.rg
          refine ⟨fun c_97 => ?_, fun c_97 => ?_⟩
          · have d_98 := iEq c_97
            unfold fModel_numeral_69
            refine y_Model_isGood hok hw ra hR_86 (fun r_99 u_100 u_101 u_102 => ⟨r_99, I_84, L_85, rfl, rfl, ?_⟩)
            have b_103 : 0 ≤ r_99.toInt ∧ r_99.toInt ≤ 1 := u_100.rg
            refine ⟨fun c_104 => ?_, fun c_104 => ?_⟩
            · have d_105 := iEq c_104
              exact (hp _ _ _ hR_86 hf_88 (by first | omega | (intro h; omega) | exact Or.inl rfl | exact Or.inr rfl) (by first | omega | (intro h; omega) | exact Or.inl rfl | exact Or.inr rfl) (by first | assumption | (intro h; have q := hq1 (by omega); omega)) (by first | assumption | (intro h; omega) | (intro h; simp only [Im] at *; omega)) (by first | omega | (intro h; omega) | exact Or.inl rfl | exact Or.inr rfl) (by first | omega | (intro h; omega) | exact Or.inl rfl | exact Or.inr rfl) (by first | omega | (intro h; omega) | exact Or.inl rfl | exact Or.inr rfl) (by first | omega | (intro h; omega) | exact Or.inl rfl | exact Or.inr rfl) (by first | omega | (intro h; omega) | exact Or.inl rfl | exact Or.inr rfl) (by first | omega | (intro h; omega) | exact Or.inl rfl | exact Or.inr rfl) (by first | omega | (intro h; omega) | exact Or.inl rfl | exact Or.inr rfl))
            · have d_106 := iNe c_104
              exact (hp _ _ _ hR_86 hf_88 (by first | omega | (intro h; omega) | exact Or.inl rfl | exact Or.inr rfl) (by first | omega | (intro h; omega) | exact Or.inl rfl | exact Or.inr rfl) (by first | assumption | (intro h; have q := hq1 (by omega); omega)) (by first | assumption | (intro h; omega) | (intro h; simp only [Im] at *; omega)) (by first | omega | (intro h; omega) | exact Or.inl rfl | exact Or.inr rfl) (by first | omega | (intro h; omega) | exact Or.inl rfl | exact Or.inr rfl) (by first | omega | (intro h; omega) | exact Or.inl rfl | exact Or.inr rfl) (by first | omega | (intro h; omega) | exact Or.inl rfl | exact Or.inr rfl) (by first | omega | (intro h; omega) | exact Or.inl rfl | exact Or.inr rfl) (by first | omega | (intro h; omega) | exact Or.inl rfl | exact Or.inr rfl) (by first | omega | (intro h; omega) | exact Or.inl rfl | exact Or.inr rfl))
          · have d_107 := iNe c_97
            refine y_Model_next hok hw ra (by first | omega | (intro h; omega) | exact Or.inl rfl | exact Or.inr rfl) hR_86 (fun I_121 L_122 hR_123 fr_124 u_109 u_110 u_111 u_112 u_113 u_114 u_115 u_116 u_117 u_118 u_119 u_120 => ⟨I_121, L_122, rfl, rfl, ?_⟩)
            have hf_125 : Fm (fun c => c = o) I0 I_121 := hf_88.call fr_124 (fun c hc => by first | exact hc | (dsimp only at hc ⊢; omega) | omega)
            have g_126 : (0 : Int) ≤ (I_121 o 7).toInt ∧ (I_121 o 7).toInt ≤ 1601 := hR_123.at0 ra 7 (by decide)
            have g_127 : (0 : Int) ≤ (I_121 o 3).toInt ∧ (I_121 o 3).toInt ≤ 1600 := hR_123.at0 ra 3 (by decide)
            have g_128 : (0 : Int) ≤ (I_121 o 6).toInt ∧ (I_121 o 6).toInt ≤ 1600 := hR_123.at0 ra 6 (by decide)
            unfold fModel_numeral_69
            refine y_Model_isGood hok hw ra hR_123 (fun r_129 u_130 u_131 u_132 => ⟨r_129, I_121, L_122, rfl, rfl, ?_⟩)
            have b_133 : 0 ≤ r_129.toInt ∧ r_129.toInt ≤ 1 := u_130.rg
            refine ⟨fun c_134 => ?_, fun c_134 => ?_⟩
            · have d_135 := iEq c_134
              exact (hp _ _ _ hR_123 hf_125 (by first | omega | (intro h; omega) | exact Or.inl rfl | exact Or.inr rfl) (by first | omega | (intro h; omega) | exact Or.inl rfl | exact Or.inr rfl) (by first | assumption | (intro h; have q := hq1 (by omega); omega)) (by first | assumption | (intro h; omega) | (intro h; simp only [Im] at *; omega)) (by first | omega | (intro h; omega) | exact Or.inl rfl | exact Or.inr rfl) (by first | omega | (intro h; omega) | exact Or.inl rfl | exact Or.inr rfl) (by first | omega | (intro h; omega) | exact Or.inl rfl | exact Or.inr rfl) (by first | omega | (intro h; omega) | exact Or.inl rfl | exact Or.inr rfl) (by first | omega | (intro h; omega) | exact Or.inl rfl | exact Or.inr rfl) (by first | omega | (intro h; omega) | exact Or.inl rfl | exact Or.inr rfl) (by first | omega | (intro h; omega) | exact Or.inl rfl | exact Or.inr rfl))
            · have d_136 := iNe c_134
              exact (hp _ _ _ hR_123 hf_125 (by first | omega | (intro h; omega) | exact Or.inl rfl | exact Or.inr rfl) (by first | omega | (intro h; omega) | exact Or.inl rfl | exact Or.inr rfl) (by first | assumption | (intro h; have q := hq1 (by omega); omega)) (by first | assumption | (intro h; omega) | (intro h; simp only [Im] at *; omega)) (by first | omega | (intro h; omega) | exact Or.inl rfl | exact Or.inr rfl) (by first | omega | (intro h; omega) | exact Or.inl rfl | exact Or.inr rfl) (by first | omega | (intro h; omega) | exact Or.inl rfl | exact Or.inr rfl) (by first | omega | (intro h; omega) | exact Or.inl rfl | exact Or.inr rfl) (by first | omega | (intro h; omega) | exact Or.inl rfl | exact Or.inr rfl) (by first | omega | (intro h; omega) | exact Or.inl rfl | exact Or.inr rfl) (by first | omega | (intro h; omega) | exact Or.inl rfl | exact Or.inr rfl))
        · have d_137 := iNlt c_66
          refine ⟨fun c_138 => ?_, fun c_138 => ?_⟩
          · have d_139 := iLe c_138
            unfold fModel_numeral_53
            refine y_Model_isGood hok hw ra hR (fun r_140 u_141 u_142 u_143 => ⟨r_140, I0, L0, rfl, rfl, ?_⟩)
            have b_144 : 0 ≤ r_140.toInt ∧ r_140.toInt ≤ 1 := u_141.rg
            refine ⟨fun c_145 => ?_, fun c_145 => ?_⟩
            · have d_146 := iEq c_145
              unfold fModel_numeral_69
              refine y_Model_isGood hok hw ra hR (fun r_147 u_148 u_149 u_150 => ⟨r_147, I0, L0, rfl, rfl, ?_⟩)
              have b_151 : 0 ≤ r_147.toInt ∧ r_147.toInt ≤ 1 := u_148.rg
              refine ⟨fun c_152 => ?_, fun c_152 => ?_⟩
              · have d_153 := iEq c_152
                exact (hp _ _ _ hR hf (by first | omega | (intro h; omega) | exact Or.inl rfl | exact Or.inr rfl) (by first | omega | (intro h; omega) | exact Or.inl rfl | exact Or.inr rfl) (by first | assumption | (intro h; have q := hq1 (by omega); omega)) (by first | assumption | (intro h; omega) | (intro h; simp only [Im] at *; omega)) (by first | omega | (intro h; omega) | exact Or.inl rfl | exact Or.inr rfl) (by first | omega | (intro h; omega) | exact Or.inl rfl | exact Or.inr rfl) (by first | omega | (intro h; omega) | exact Or.inl rfl | exact Or.inr rfl) (by first | omega | (intro h; omega) | exact Or.inl rfl | exact Or.inr rfl) (by first | omega | (intro h; omega) | exact Or.inl rfl | exact Or.inr rfl) (by first | omega | (intro h; omega) | exact Or.inl rfl | exact Or.inr rfl) (by first | omega | (intro h; omega) | exact Or.inl rfl | exact Or.inr rfl))
              · have d_154 := iNe c_152
                exact (hp _ _ _ hR hf (by first | omega | (intro h; omega) | exact Or.inl rfl | exact Or.inr rfl) (by first | omega | (intro h; omega) | exact Or.inl rfl | exact Or.inr rfl) (by first | assumption | (intro h; have q := hq1 (by omega); omega)) (by first | assumption | (intro h; omega) | (intro h; simp only [Im] at *; omega)) (by first | omega | (intro h; omega) | exact Or.inl rfl | exact Or.inr rfl) (by first | omega | (intro h; omega) | exact Or.inl rfl | exact Or.inr rfl) (by first | omega | (intro h; omega) | exact Or.inl rfl | exact Or.inr rfl) (by first | omega | (intro h; omega) | exact Or.inl rfl | exact Or.inr rfl) (by first | omega | (intro h; omega) | exact Or.inl rfl | exact Or.inr rfl) (by first | omega | (intro h; omega) | exact Or.inl rfl | exact Or.inr rfl) (by first | omega | (intro h; omega) | exact Or.inl rfl | exact Or.inr rfl))
            · have d_155 := iNe c_145
              refine y_Model_next hok hw ra (by first | omega | (intro h; omega) | exact Or.inl rfl | exact Or.inr rfl) hR (fun I_169 L_170 hR_171 fr_172 u_157 u_158 u_159 u_160 u_161 u_162 u_163 u_164 u_165 u_166 u_167 u_168 => ⟨I_169, L_170, rfl, rfl, ?_⟩)
              have hf_173 : Fm (fun c => c = o) I0 I_169 := hf.call fr_172 (fun c hc => by first | exact hc | (dsimp only at hc ⊢; omega) | omega)
              have g_174 : (0 : Int) ≤ (I_169 o 7).toInt ∧ (I_169 o 7).toInt ≤ 1601 := hR_171.at0 ra 7 (by decide)
              have g_175 : (0 : Int) ≤ (I_169 o 3).toInt ∧ (I_169 o 3).toInt ≤ 1600 := hR_171.at0 ra 3 (by decide)
              unfold fModel_numeral_69
              refine y_Model_isGood hok hw ra hR_171 (fun r_176 u_177 u_178 u_179 => ⟨r_176, I_169, L_170, rfl, rfl, ?_⟩)
              have b_180 : 0 ≤ r_176.toInt ∧ r_176.toInt ≤ 1 := u_177.rg
              refine ⟨fun c_181 => ?_, fun c_181 => ?_⟩
              · have d_182 := iEq c_181
                exact (hp _ _ _ hR_171 hf_173 (by first | omega | (intro h; omega) | exact Or.inl rfl | exact Or.inr rfl) (by first | omega | (intro h; omega) | exact Or.inl rfl | exact Or.inr rfl) (by first | assumption | (intro h; have q := hq1 (by omega); omega)) (by first | assumption | (intro h; omega) | (intro h; simp only [Im] at *; omega)) (by first | omega | (intro h; omega) | exact Or.inl rfl | exact Or.inr rfl) (by first | omega | (intro h; omega) | exact Or.inl rfl | exact Or.inr rfl) (by first | omega | (intro h; omega) | exact Or.inl rfl | exact Or.inr rfl) (by first | omega | (intro h; omega) | exact Or.inl rfl | exact Or.inr rfl) (by first | omega | (intro h; omega) | exact Or.inl rfl | exact Or.inr rfl) (by first | omega | (intro h; omega) | exact Or.inl rfl | exact Or.inr rfl) (by first | omega | (intro h; omega) | exact Or.inl rfl | exact Or.inr rfl))
              · have d_183 := iNe c_181
                exact (hp _ _ _ hR_171 hf_173 (by first | omega | (intro h; omega) | exact Or.inl rfl | exact Or.inr rfl) (by first | omega | (intro h; omega) | exact Or.inl rfl | exact Or.inr rfl) (by first | assumption | (intro h; have q := hq1 (by omega); omega)) (by first | assumption | (intro h; omega) | (intro h; simp only [Im] at *; omega)) (by first | omega | (intro h; omega) | exact Or.inl rfl | exact Or.inr rfl) (by first | omega | (intro h; omega) | exact Or.inl rfl | exact Or.inr rfl) (by first | omega | (intro h; omega) | exact Or.inl rfl | exact Or.inr rfl) (by first | omega | (intro h; omega) | exact Or.inl rfl | exact Or.inr rfl) (by first | omega | (intro h; omega) | exact Or.inl rfl | exact Or.inr rfl) (by first | omega | (intro h; omega) | exact Or.inl rfl | exact Or.inr rfl) (by first | omega | (intro h; omega) | exact Or.inl rfl | exact Or.inr rfl))
          · have d_184 := iNle c_138
            unfold fModel_numeral_44
            have g_185 : (0 : Int) ≤ (I0 o 6).toInt ∧ (I0 o 6).toInt ≤ 1600 := hR.at0 ra 6 (by decide)
            refine y_Model_fails hok hw ra (by first | omega | (intro h; omega) | exact Or.inl rfl | exact Or.inr rfl) hR (fun I_201 L_202 hR_203 fr_204 u_187 u_188 u_189 u_190 u_191 u_192 u_193 u_194 u_195 u_196 u_197 u_198 u_199 u_200 => ⟨I_201, L_202, rfl, rfl, ?_⟩)
            have hf_205 : Fm (fun c => c = o) I0 I_201 := hf.call fr_204 (fun c hc => by first | exact hc | (dsimp only at hc ⊢; omega) | omega)
            have g_206 : (0 : Int) ≤ (I_201 o 7).toInt ∧ (I_201 o 7).toInt ≤ 1601 := hR_203.at0 ra 7 (by decide)
            have g_207 : (0 : Int) ≤ (I_201 o 3).toInt ∧ (I_201 o 3).toInt ≤ 1600 := hR_203.at0 ra 3 (by decide)
            have g_208 : (0 : Int) ≤ (I_201 o 6).toInt ∧ (I_201 o 6).toInt ≤ 1600 := hR_203.at0 ra 6 (by decide)
            unfold fModel_numeral_53
            refine y_Model_isGood hok hw ra hR_203 (fun r_209 u_210 u_211 u_212 => ⟨r_209, I_201, L_202, rfl, rfl, ?_⟩)
            have b_213 : 0 ≤ r_209.toInt ∧ r_209.toInt ≤ 1 := u_210.rg
            refine ⟨fun c_214 => ?_, fun c_214 => ?_⟩
            · have d_215 := iEq c_214
              unfold fModel_numeral_69
              refine y_Model_isGood hok hw ra hR_203 (fun r_216 u_217 u_218 u_219 => ⟨r_216, I_201, L_202, rfl, rfl, ?_⟩)
              have b_220 : 0 ≤ r_216.toInt ∧ r_216.toInt ≤ 1 := u_217.rg
              refine ⟨fun c_221 => ?_, fun c_221 => ?_⟩
              · have d_222 := iEq c_221
                exact (hp _ _ _ hR_203 hf_205 (by first | omega | (intro h; omega) | exact Or.inl rfl | exact Or.inr rfl) (by first | omega | (intro h; omega) | exact Or.inl rfl | exact Or.inr rfl) (by first | assumption | (intro h; have q := hq1 (by omega); omega)) (by first | assumption | (intro h; omega) | (intro h; simp only [Im] at *; omega)) (by first | omega | (intro h; omega) | exact Or.inl rfl | exact Or.inr rfl) (by first | omega | (intro h; omega) | exact Or.inl rfl | exact Or.inr rfl) (by first | omega | (intro h; omega) | exact Or.inl rfl | exact Or.inr rfl) (by first | omega | (intro h; omega) | exact Or.inl rfl | exact Or.inr rfl) (by first | omega | (intro h; omega) | exact Or.inl rfl | exact Or.inr rfl) (by first | omega | (intro h; omega) | exact Or.inl rfl | exact Or.inr rfl) (by first | omega | (intro h; omega) | exact Or.inl rfl | exact Or.inr rfl))
              · have d_223 := iNe c_221
                exact (hp _ _ _ hR_203 hf_205 (by first | omega | (intro h; omega) | exact Or.inl rfl | exact Or.inr rfl) (by first | omega | (intro h; omega) | exact Or.inl rfl | exact Or.inr rfl) (by first | assumption | (intro h; have q := hq1 (by omega); omega)) (by first | assumption | (intro h; omega) | (intro h; simp only [Im] at *; omega)) (by first | omega | (intro h; omega) | exact Or.inl rfl | exact Or.inr rfl) (by first | omega | (intro h; omega) | exact Or.inl rfl | exact Or.inr rfl) (by first | omega | (intro h; omega) | exact Or.inl rfl | exact Or.inr rfl) (by first | omega | (intro h; omega) | exact Or.inl rfl | exact Or.inr rfl) (by first | omega | (intro h; omega) | exact Or.inl rfl | exact Or.inr rfl) (by first | omega | (intro h; omega) | exact Or.inl rfl | exact Or.inr rfl) (by first | omega | (intro h; omega) | exact Or.inl rfl | exact Or.inr rfl))
            · have d_224 := iNe c_214
              refine y_Model_next hok hw ra (by first | omega | (intro h; omega) | exact Or.inl rfl | exact Or.inr rfl) hR_203 (fun I_238 L_239 hR_240 fr_241 u_226 u_227 u_228 u_229 u_230 u_231 u_232 u_233 u_234 u_235 u_236 u_237 => ⟨I_238, L_239, rfl, rfl, ?_⟩)
              have hf_242 : Fm (fun c => c = o) I0 I_238 := hf_205.call fr_241 (fun c hc => by first | exact hc | (dsimp only at hc ⊢; omega) | omega)
              have g_243 : (0 : Int) ≤ (I_238 o 7).toInt ∧ (I_238 o 7).toInt ≤ 1601 := hR_240.at0 ra 7 (by decide)
              have g_244 : (0 : Int) ≤ (I_238 o 3).toInt ∧ (I_238 o 3).toInt ≤ 1600 := hR_240.at0 ra 3 (by decide)
              have g_245 : (0 : Int) ≤ (I_238 o 6).toInt ∧ (I_238 o 6).toInt ≤ 1600 := hR_240.at0 ra 6 (by decide)
              unfold fModel_numeral_69
              refine y_Model_isGood hok hw ra hR_240 (fun r_246 u_247 u_248 u_249 => ⟨r_246, I_238, L_239, rfl, rfl, ?_⟩)
              have b_250 : 0 ≤ r_246.toInt ∧ r_246.toInt ≤ 1 := u_247.rg
              refine ⟨fun c_251 => ?_, fun c_251 => ?_⟩
              · have d_252 := iEq c_251
                exact (hp _ _ _ hR_240 hf_242 (by first | omega | (intro h; omega) | exact Or.inl rfl | exact Or.inr rfl) (by first | omega | (intro h; omega) | exact Or.inl rfl | exact Or.inr rfl) (by first | assumption | (intro h; have q := hq1 (by omega); omega)) (by first | assumption | (intro h; omega) | (intro h; simp only [Im] at *; omega)) (by first | omega | (intro h; omega) | exact Or.inl rfl | exact Or.inr rfl) (by first | omega | (intro h; omega) | exact Or.inl rfl | exact Or.inr rfl) (by first | omega | (intro h; omega) | exact Or.inl rfl | exact Or.inr rfl) (by first | omega | (intro h; omega) | exact Or.inl rfl | exact Or.inr rfl) (by first | omega | (intro h; omega) | exact Or.inl rfl | exact Or.inr rfl) (by first | omega | (intro h; omega) | exact Or.inl rfl | exact Or.inr rfl) (by first | omega | (intro h; omega) | exact Or.inl rfl | exact Or.inr rfl))
              · have d_253 := iNe c_251
                exact (hp _ _ _ hR_240 hf_242 (by first | omega | (intro h; omega) | exact Or.inl rfl | exact Or.inr rfl) (by first | omega | (intro h; omega) | exact Or.inl rfl | exact Or.inr rfl) (by first | assumption | (intro h; have q := hq1 (by omega); omega)) (by first | assumption | (intro h; omega) | (intro h; simp only [Im] at *; omega)) (by first | omega | (intro h; omega) | exact Or.inl rfl | exact Or.inr rfl) (by first | omega | (intro h; omega) | exact Or.inl rfl | exact Or.inr rfl) (by first | omega | (intro h; omega) | exact Or.inl rfl | exact Or.inr rfl) (by first | omega | (intro h; omega) | exact Or.inl rfl | exact Or.inr rfl) (by first | omega | (intro h; omega) | exact Or.inl rfl | exact Or.inr rfl) (by first | omega | (intro h; omega) | exact Or.inl rfl | exact Or.inr rfl) (by first | omega | (intro h; omega) | exact Or.inl rfl | exact Or.inr rfl))
    · have d_254 := iNe c_12
      refine y_Model_wrong hok hw ra hR (fun I_269 L_270 hR_271 fr_272 u_256 u_257 u_258 u_259 u_260 u_261 u_262 u_263 u_264 u_265 u_266 u_267 u_268 => ⟨I_269, L_270, rfl, rfl, ?_⟩)
      have hf_273 : Fm (fun c => c = o) I0 I_269 := hf.call fr_272 (fun c hc => by first | exact hc | (dsimp only at hc ⊢; omega) | omega)
      have g_274 : (0 : Int) ≤ (I_269 o 7).toInt ∧ (I_269 o 7).toInt ≤ 1601 := hR_271.at0 ra 7 (by decide)
      have g_275 : (0 : Int) ≤ (I_269 o 3).toInt ∧ (I_269 o 3).toInt ≤ 1600 := hR_271.at0 ra 3 (by decide)
      unfold fModel_numeral_21
      refine y_Model_isGood hok hw ra hR_271 (fun r_276 u_277 u_278 u_279 => ⟨r_276, I_269, L_270, rfl, rfl, ?_⟩)
      have b_280 : 0 ≤ r_276.toInt ∧ r_276.toInt ≤ 1 := u_277.rg
      refine ⟨fun c_281 => ?_, fun c_281 => ?_⟩
      · have d_282 := iEq c_281
        unfold fModel_numeral_53
        refine y_Model_isGood hok hw ra hR_271 (fun r_283 u_284 u_285 u_286 => ⟨r_283, I_269, L_270, rfl, rfl, ?_⟩)
        have b_287 : 0 ≤ r_283.toInt ∧ r_283.toInt ≤ 1 := u_284.rg
        refine ⟨fun c_288 => ?_, fun c_288 => ?_⟩
        · have d_289 := iEq c_288
          unfold fModel_numeral_69
          refine y_Model_isGood hok hw ra hR_271 (fun r_290 u_291 u_292 u_293 => ⟨r_290, I_269, L_270, rfl, rfl, ?_⟩)
          have b_294 : 0 ≤ r_290.toInt ∧ r_290.toInt ≤ 1 := u_291.rg
          refine ⟨fun c_295 => ?_, fun c_295 => ?_⟩
          · have d_296 := iEq c_295
            exact (hp _ _ _ hR_271 hf_273 (by first | omega | (intro h; omega) | exact Or.inl rfl | exact Or.inr rfl) (by first | omega | (intro h; omega) | exact Or.inl rfl | exact Or.inr rfl) (by first | assumption | (intro h; have q := hq1 (by omega); omega)) (by first | assumption | (intro h; omega) | (intro h; simp only [Im] at *; omega)) (by first | omega | (intro h; omega) | exact Or.inl rfl | exact Or.inr rfl) (by first | omega | (intro h; omega) | exact Or.inl rfl | exact Or.inr rfl) (by first | omega | (intro h; omega) | exact Or.inl rfl | exact Or.inr rfl) (by first | omega | (intro h; omega) | exact Or.inl rfl | exact Or.inr rfl) (by first | omega | (intro h; omega) | exact Or.inl rfl | exact Or.inr rfl) (by first | omega | (intro h; omega) | exact Or.inl rfl | exact Or.inr rfl) (by first | omega | (intro h; omega) | exact Or.inl rfl | exact Or.inr rfl))
          · have d_297 := iNe c_295
            exact (hp _ _ _ hR_271 hf_273 (by first | omega | (intro h; omega) | exact Or.inl rfl | exact Or.inr rfl) (by first | omega | (intro h; omega) | exact Or.inl rfl | exact Or.inr rfl) (by first | assumption | (intro h; have q := hq1 (by omega); omega)) (by first | assumption | (intro h; omega) | (intro h; simp only [Im] at *; omega)) (by first | omega | (intro h; omega) | exact Or.inl rfl | exact Or.inr rfl) (by first | omega | (intro h; omega) | exact Or.inl rfl | exact Or.inr rfl) (by first | omega | (intro h; omega) | exact Or.inl rfl | exact Or.inr rfl) (by first | omega | (intro h; omega) | exact Or.inl rfl | exact Or.inr rfl) (by first | omega | (intro h; omega) | exact Or.inl rfl | exact Or.inr rfl) (by first | omega | (intro h; omega) | exact Or.inl rfl | exact Or.inr rfl) (by first | omega | (intro h; omega) | exact Or.inl rfl | exact Or.inr rfl))
        · have d_298 := iNe c_288
          refine y_Model_next hok hw ra (by first | omega | (intro h; omega) | exact Or.inl rfl | exact Or.inr rfl) hR_271 (fun I_312 L_313 hR_314 fr_315 u_300 u_301 u_302 u_303 u_304 u_305 u_306 u_307 u_308 u_309 u_310 u_311 => ⟨I_312, L_313, rfl, rfl, ?_⟩)
          have hf_316 : Fm (fun c => c = o) I0 I_312 := hf_273.call fr_315 (fun c hc => by first | exact hc | (dsimp only at hc ⊢; omega) | omega)
          have g_317 : (0 : Int) ≤ (I_312 o 7).toInt ∧ (I_312 o 7).toInt ≤ 1601 := hR_314.at0 ra 7 (by decide)
          have g_318 : (0 : Int) ≤ (I_312 o 3).toInt ∧ (I_312 o 3).toInt ≤ 1600 := hR_314.at0 ra 3 (by decide)
          unfold fModel_numeral_69
          refine y_Model_isGood hok hw ra hR_314 (fun r_319 u_320 u_321 u_322 => ⟨r_319, I_312, L_313, rfl, rfl, ?_⟩)
          have b_323 : 0 ≤ r_319.toInt ∧ r_319.toInt ≤ 1 := u_320.rg
          refine ⟨fun c_324 => ?_, fun c_324 => ?_⟩
          · have d_325 := iEq c_324
            exact (hp _ _ _ hR_314 hf_316 (by first | omega | (intro h; omega) | exact Or.inl rfl | exact Or.inr rfl) (by first | omega | (intro h; omega) | exact Or.inl rfl | exact Or.inr rfl) (by first | assumption | (intro h; have q := hq1 (by omega); omega)) (by first | assumption | (intro h; omega) | (intro h; simp only [Im] at *; omega)) (by first | omega | (intro h; omega) | exact Or.inl rfl | exact Or.inr rfl) (by first | omega | (intro h; omega) | exact Or.inl rfl | exact Or.inr rfl) (by first | omega | (intro h; omega) | exact Or.inl rfl | exact Or.inr rfl) (by first | omega | (intro h; omega) | exact Or.inl rfl | exact Or.inr rfl) (by first | omega | (intro h; omega) | exact Or.inl rfl | exact Or.inr rfl) (by first | omega | (intro h; omega) | exact Or.inl rfl | exact Or.inr rfl) (by first | omega | (intro h; omega) | exact Or.inl rfl | exact Or.inr rfl))
          · have d_326 := iNe c_324
            exact (hp _ _ _ hR_314 hf_316 (by first | omega | (intro h; omega) | exact Or.inl rfl | exact Or.inr rfl) (by first | omega | (intro h; omega) | exact Or.inl rfl | exact Or.inr rfl) (by first | assumption | (intro h; have q := hq1 (by omega); omega)) (by first | assumption | (intro h; omega) | (intro h; simp only [Im] at *; omega)) (by first | omega | (intro h; omega) | exact Or.inl rfl | exact Or.inr rfl) (by first | omega | (intro h; omega) | exact Or.inl rfl | exact Or.inr rfl) (by first | omega | (intro h; omega) | exact Or.inl rfl | exact Or.inr rfl) (by first | omega | (intro h; omega) | exact Or.inl rfl | exact Or.inr rfl) (by first | omega | (intro h; omega) | exact Or.inl rfl | exact Or.inr rfl) (by first | omega | (intro h; omega) | exact Or.inl rfl | exact Or.inr rfl) (by first | omega | (intro h; omega) | exact Or.inl rfl | exact Or.inr rfl))
      · have d_327 := iNe c_281
        refine ⟨fun c_328 => ?_, fun c_328 => ?_⟩
        · have d_329 := iLt c_328
          unfold fModel_numeral_44
          have g_330 : (0 : Int) ≤ (I_269 o 6).toInt ∧ (I_269 o 6).toInt ≤ 1600 := hR_271.at0 ra 6 (by decide)
          refine y_Model_fails hok hw ra (by first | omega | (intro h; omega) | exact Or.inl rfl | exact Or.inr rfl) hR_271 (fun I_346 L_347 hR_348 fr_349 u_332 u_333 u_334 u_335 u_336 u_337 u_338 u_339 u_340 u_341 u_342 u_343 u_344 u_345 => ⟨I_346, L_347, rfl, rfl, ?_⟩)
          have hf_350 : Fm (fun c => c = o) I0 I_346 := hf_273.call fr_349 (fun c hc => by first | exact hc | (dsimp only at hc ⊢; omega) | omega)
          have g_351 : (0 : Int) ≤ (I_346 o 7).toInt ∧ (I_346 o 7).toInt ≤ 1601 := hR_348.at0 ra 7 (by decide)
          have g_352 : (0 : Int) ≤ (I_346 o 3).toInt ∧ (I_346 o 3).toInt ≤ 1600 := hR_348.at0 ra 3 (by decide)
          have g_353 : (0 : Int) ≤ (I_346 o 6).toInt ∧ (I_346 o 6).toInt ≤ 1600 := hR_348.at0 ra 6 (by decide)
          unfold fModel_numeral_53
          refine y_Model_isGood hok hw ra hR_348 (fun r_354 u_355 u_356 u_357 => ⟨r_354, I_346, L_347, rfl, rfl, ?_⟩)
          have b_358 : 0 ≤ r_354.toInt ∧ r_354.toInt ≤ 1 := u_355.rg
          refine ⟨fun c_359 => ?_, fun c_359 => ?_⟩
          · have d_360 := iEq c_359
            unfold fModel_numeral_69
            refine y_Model_isGood hok hw ra hR_348 (fun r_361 u_362 u_363 u_364 => ⟨r_361, I_346, L_347, rfl, rfl, ?_⟩)
            have b_365 : 0 ≤ r_361.toInt ∧ r_361.toInt ≤ 1 := u_362.rg
            refine ⟨fun c_366 => ?_, fun c_366 => ?_⟩
            · have d_367 := iEq c_366
              exact (hp _ _ _ hR_348 hf_350 (by first | omega | (intro h; omega) | exact Or.inl rfl | exact Or.inr rfl) (by first | omega | (intro h; omega) | exact Or.inl rfl | exact Or.inr rfl) (by first | assumption | (intro h; have q := hq1 (by omega); omega)) (by first | assumption | (intro h; omega) | (intro h; simp only [Im] at *; omega)) (by first | omega | (intro h; omega) | exact Or.inl rfl | exact Or.inr rfl) (by first | omega | (intro h; omega) | exact Or.inl rfl | exact Or.inr rfl) (by first | omega | (intro h; omega) | exact Or.inl rfl | exact Or.inr rfl) (by first | omega | (intro h; omega) | exact Or.inl rfl | exact Or.inr rfl) (by first | omega | (intro h; omega) | exact Or.inl rfl | exact Or.inr rfl) (by first | omega | (intro h; omega) | exact Or.inl rfl | exact Or.inr rfl) (by first | omega | (intro h; omega) | exact Or.inl rfl | exact Or.inr rfl))
            · have d_368 := iNe c_366
              exact (hp _ _ _ hR_348 hf_350 (by first | omega | (intro h; omega) | exact Or.inl rfl | exact Or.inr rfl) (by first | omega | (intro h; omega) | exact Or.inl rfl | exact Or.inr rfl) (by first | assumption | (intro h; have q := hq1 (by omega); omega)) (by first | assumption | (intro h; omega) | (intro h; simp only [Im] at *; omega)) (by first | omega | (intro h; omega) | exact Or.inl rfl | exact Or.inr rfl) (by first | omega | (intro h; omega) | exact Or.inl rfl | exact Or.inr rfl) (by first | omega | (intro h; omega) | exact Or.inl rfl | exact Or.inr rfl) (by first | omega | (intro h; omega) | exact Or.inl rfl | exact Or.inr rfl) (by first | omega | (intro h; omega) | exact Or.inl rfl | exact Or.inr rfl) (by first | omega | (intro h; omega) | exact Or.inl rfl | exact Or.inr rfl) (by first | omega | (intro h; omega) | exact Or.inl rfl | exact Or.inr rfl))
          · have d_369 := iNe c_359
            refine y_Model_next hok hw ra (by first | omega | (intro h; omega) | exact Or.inl rfl | exact Or.inr rfl) hR_348 (fun I_383 L_384 hR_385 fr_386 u_371 u_372 u_373 u_374 u_375 u_376 u_377 u_378 u_379 u_380 u_381 u_382 => ⟨I_383, L_384, rfl, rfl, ?_⟩)
            have hf_387 : Fm (fun c => c = o) I0 I_383 := hf_350.call fr_386 (fun c hc => by first | exact hc | (dsimp only at hc ⊢; omega) | omega)
            have g_388 : (0 : Int) ≤ (I_383 o 7).toInt ∧ (I_383 o 7).toInt ≤ 1601 := hR_385.at0 ra 7 (by decide)
            have g_389 : (0 : Int) ≤ (I_383 o 3).toInt ∧ (I_383 o 3).toInt ≤ 1600 := hR_385.at0 ra 3 (by decide)
            have g_390 : (0 : Int) ≤ (I_383 o 6).toInt ∧ (I_383 o 6).toInt ≤ 1600 := hR_385.at0 ra 6 (by decide)
            unfold fModel_numeral_69
            refine y_Model_isGood hok hw ra hR_385 (fun r_391 u_392 u_393 u_394 => ⟨r_391, I_383, L_384, rfl, rfl, ?_⟩)
            have b_395 : 0 ≤ r_391.toInt ∧ r_391.toInt ≤ 1 := u_392.rg
            refine ⟨fun c_396 => ?_, fun c_396 => ?_⟩
            · have d_397 := iEq c_396
              exact (hp _ _ _ hR_385 hf_387 (by first | omega | (intro h; omega) | exact Or.inl rfl | exact Or.inr rfl) (by first | omega | (intro h; omega) | exact Or.inl rfl | exact Or.inr rfl) (by first | assumption | (intro h; have q := hq1 (by omega); omega)) (by first | assumption | (intro h; omega) | (intro h; simp only [Im] at *; omega)) (by first | omega | (intro h; omega) | exact Or.inl rfl | exact Or.inr rfl) (by first | omega | (intro h; omega) | exact Or.inl rfl | exact Or.inr rfl) (by first | omega | (intro h; omega) | exact Or.inl rfl | exact Or.inr rfl) (by first | omega | (intro h; omega) | exact Or.inl rfl | exact Or.inr rfl) (by first | omega | (intro h; omega) | exact Or.inl rfl | exact Or.inr rfl) (by first | omega | (intro h; omega) | exact Or.inl rfl | exact Or.inr rfl) (by first | omega | (intro h; omega) | exact Or.inl rfl | exact Or.inr rfl))
            · have d_398 := iNe c_396
              exact (hp _ _ _ hR_385 hf_387 (by first | omega | (intro h; omega) | exact Or.inl rfl | exact Or.inr rfl) (by first | omega | (intro h; omega) | exact Or.inl rfl | exact Or.inr rfl) (by first | assumption | (intro h; have q := hq1 (by omega); omega)) (by first | assumption | (intro h; omega) | (intro h; simp only [Im] at *; omega)) (by first | omega | (intro h; omega) | exact Or.inl rfl | exact Or.inr rfl) (by first | omega | (intro h; omega) | exact Or.inl rfl | exact Or.inr rfl) (by first | omega | (intro h; omega) | exact Or.inl rfl | exact Or.inr rfl) (by first | omega | (intro h; omega) | exact Or.inl rfl | exact Or.inr rfl) (by first | omega | (intro h; omega) | exact Or.inl rfl | exact Or.inr rfl) (by first | omega | (intro h; omega) | exact Or.inl rfl | exact Or.inr rfl) (by first | omega | (intro h; omega) | exact Or.inl rfl | exact Or.inr rfl))
        · have d_399 := iNlt c_328
          refine ⟨fun c_400 => ?_, fun c_400 => ?_⟩
          · have d_401 := iLe c_400
            unfold fModel_numeral_53
            refine y_Model_isGood hok hw ra hR_271 (fun r_402 u_403 u_404 u_405 => ⟨r_402, I_269, L_270, rfl, rfl, ?_⟩)
            have b_406 : 0 ≤ r_402.toInt ∧ r_402.toInt ≤ 1 := u_403.rg
            refine ⟨fun c_407 => ?_, fun c_407 => ?_⟩
            · have d_408 := iEq c_407
              unfold fModel_numeral_69
              refine y_Model_isGood hok hw ra hR_271 (fun r_409 u_410 u_411 u_412 => ⟨r_409, I_269, L_270, rfl, rfl, ?_⟩)
              have b_413 : 0 ≤ r_409.toInt ∧ r_409.toInt ≤ 1 := u_410.rg
              refine ⟨fun c_414 => ?_, fun c_414 => ?_⟩
              · have d_415 := iEq c_414
                exact (hp _ _ _ hR_271 hf_273 (by first | omega | (intro h; omega) | exact Or.inl rfl | exact Or.inr rfl) (by first | omega | (intro h; omega) | exact Or.inl rfl | exact Or.inr rfl) (by first | assumption | (intro h; have q := hq1 (by omega); omega)) (by first | assumption | (intro h; omega) | (intro h; simp only [Im] at *; omega)) (by first | omega | (intro h; omega) | exact Or.inl rfl | exact Or.inr rfl) (by first | omega | (intro h; omega) | exact Or.inl rfl | exact Or.inr rfl) (by first | omega | (intro h; omega) | exact Or.inl rfl | exact Or.inr rfl) (by first | omega | (intro h; omega) | exact Or.inl rfl | exact Or.inr rfl) (by first | omega | (intro h; omega) | exact Or.inl rfl | exact Or.inr rfl) (by first | omega | (intro h; omega) | exact Or.inl rfl | exact Or.inr rfl) (by first | omega | (intro h; omega) | exact Or.inl rfl | exact Or.inr rfl))
              · have d_416 := iNe c_414
                exact (hp _ _ _ hR_271 hf_273 (by first | omega | (intro h; omega) | exact Or.inl rfl | exact Or.inr rfl) (by first | omega | (intro h; omega) | exact Or.inl rfl | exact Or.inr rfl) (by first | assumption | (intro h; have q := hq1 (by omega); omega)) (by first | assumption | (intro h; omega) | (intro h; simp only [Im] at *; omega)) (by first | omega | (intro h; omega) | exact Or.inl rfl | exact Or.inr rfl) (by first | omega | (intro h; omega) | exact Or.inl rfl | exact Or.inr rfl) (by first | omega | (intro h; omega) | exact Or.inl rfl | exact Or.inr rfl) (by first | omega | (intro h; omega) | exact Or.inl rfl | exact Or.inr rfl) (by first | omega | (intro h; omega) | exact Or.inl rfl | exact Or.inr rfl) (by first | omega | (intro h; omega) | exact Or.inl rfl | exact Or.inr rfl) (by first | omega | (intro h; omega) | exact Or.inl rfl | exact Or.inr rfl))
            · have d_417 := iNe c_407
              refine y_Model_next hok hw ra (by first | omega | (intro h; omega) | exact Or.inl rfl | exact Or.inr rfl) hR_271 (fun I_431 L_432 hR_433 fr_434 u_419 u_420 u_421 u_422 u_423 u_424 u_425 u_426 u_427 u_428 u_429 u_430 => ⟨I_431, L_432, rfl, rfl, ?_⟩)
              have hf_435 : Fm (fun c => c = o) I0 I_431 := hf_273.call fr_434 (fun c hc => by first | exact hc | (dsimp only at hc ⊢; omega) | omega)
              have g_436 : (0 : Int) ≤ (I_431 o 7).toInt ∧ (I_431 o 7).toInt ≤ 1601 := hR_433.at0 ra 7 (by decide)
              have g_437 : (0 : Int) ≤ (I_431 o 3).toInt ∧ (I_431 o 3).toInt ≤ 1600 := hR_433.at0 ra 3 (by decide)
              unfold fModel_numeral_69
              refine y_Model_isGood hok hw ra hR_433 (fun r_438 u_439 u_440 u_441 => ⟨r_438, I_431, L_432, rfl, rfl, ?_⟩)
              have b_442 : 0 ≤ r_438.toInt ∧ r_438.toInt ≤ 1 := u_439.rg
              refine ⟨fun c_443 => ?_, fun c_443 => ?_⟩
              · have d_444 := iEq c_443
                exact (hp _ _ _ hR_433 hf_435 (by first | omega | (intro h; omega) | exact Or.inl rfl | exact Or.inr rfl) (by first | omega | (intro h; omega) | exact Or.inl rfl | exact Or.inr rfl) (by first | assumption | (intro h; have q := hq1 (by omega); omega)) (by first | assumption | (intro h; omega) | (intro h; simp only [Im] at *; omega)) (by first | omega | (intro h; omega) | exact Or.inl rfl | exact Or.inr rfl) (by first | omega | (intro h; omega) | exact Or.inl rfl | exact Or.inr rfl) (by first | omega | (intro h; omega) | exact Or.inl rfl | exact Or.inr rfl) (by first | omega | (intro h; omega) | exact Or.inl rfl | exact Or.inr rfl) (by first | omega | (intro h; omega) | exact Or.inl rfl | exact Or.inr rfl) (by first | omega | (intro h; omega) | exact Or.inl rfl | exact Or.inr rfl) (by first | omega | (intro h; omega) | exact Or.inl rfl | exact Or.inr rfl))
              · have d_445 := iNe c_443
                exact (hp _ _ _ hR_433 hf_435 (by first | omega | (intro h; omega) | exact Or.inl rfl | exact Or.inr rfl) (by first | omega | (intro h; omega) | exact Or.inl rfl | exact Or.inr rfl) (by first | assumption | (intro h; have q := hq1 (by omega); omega)) (by first | assumption | (intro h; omega) | (intro h; simp only [Im] at *; omega)) (by first | omega | (intro h; omega) | exact Or.inl rfl | exact Or.inr rfl) (by first | omega | (intro h; omega) | exact Or.inl rfl | exact Or.inr rfl) (by first | omega | (intro h; omega) | exact Or.inl rfl | exact Or.inr rfl) (by first | omega | (intro h; omega) | exact Or.inl rfl | exact Or.inr rfl) (by first | omega | (intro h; omega) | exact Or.inl rfl | exact Or.inr rfl) (by first | omega | (intro h; omega) | exact Or.inl rfl | exact Or.inr rfl) (by first | omega | (intro h; omega) | exact Or.inl rfl | exact Or.inr rfl))
          · have d_446 := iNle c_400
            unfold fModel_numeral_44
            have g_447 : (0 : Int) ≤ (I_269 o 6).toInt ∧ (I_269 o 6).toInt ≤ 1600 := hR_271.at0 ra 6 (by decide)
            refine y_Model_fails hok hw ra (by first | omega | (intro h; omega) | exact Or.inl rfl | exact Or.inr rfl) hR_271 (fun I_463 L_464 hR_465 fr_466 u_449 u_450 u_451 u_452 u_453 u_454 u_455 u_456 u_457 u_458 u_459 u_460 u_461 u_462 => ⟨I_463, L_464, rfl, rfl, ?_⟩)
            have hf_467 : Fm (fun c => c = o) I0 I_463 := hf_273.call fr_466 (fun c hc => by first | exact hc | (dsimp only at hc ⊢; omega) | omega)
            have g_468 : (0 : Int) ≤ (I_463 o 7).toInt ∧ (I_463 o 7).toInt ≤ 1601 := hR_465.at0 ra 7 (by decide)
            have g_469 : (0 : Int) ≤ (I_463 o 3).toInt ∧ (I_463 o 3).toInt ≤ 1600 := hR_465.at0 ra 3 (by decide)
            have g_470 : (0 : Int) ≤ (I_463 o 6).toInt ∧ (I_463 o 6).toInt ≤ 1600 := hR_465.at0 ra 6 (by decide)
            unfold fModel_numeral_53
            refine y_Model_isGood hok hw ra hR_465 (fun r_471 u_472 u_473 u_474 => ⟨r_471, I_463, L_464, rfl, rfl, ?_⟩)
            have b_475 : 0 ≤ r_471.toInt ∧ r_471.toInt ≤ 1 := u_472.rg
            refine ⟨fun c_476 => ?_, fun c_476 => ?_⟩
            · have d_477 := iEq c_476
              unfold fModel_numeral_69
              refine y_Model_isGood hok hw ra hR_465 (fun r_478 u_479 u_480 u_481 => ⟨r_478, I_463, L_464, rfl, rfl, ?_⟩)
              have b_482 : 0 ≤ r_478.toInt ∧ r_478.toInt ≤ 1 := u_479.rg
              refine ⟨fun c_483 => ?_, fun c_483 => ?_⟩
              · have d_484 := iEq c_483
                exact (hp _ _ _ hR_465 hf_467 (by first | omega | (intro h; omega) | exact Or.inl rfl | exact Or.inr rfl) (by first | omega | (intro h; omega) | exact Or.inl rfl | exact Or.inr rfl) (by first | assumption | (intro h; have q := hq1 (by omega); omega)) (by first | assumption | (intro h; omega) | (intro h; simp only [Im] at *; omega)) (by first | omega | (intro h; omega) | exact Or.inl rfl | exact Or.inr rfl) (by first | omega | (intro h; omega) | exact Or.inl rfl | exact Or.inr rfl) (by first | omega | (intro h; omega) | exact Or.inl rfl | exact Or.inr rfl) (by first | omega | (intro h; omega) | exact Or.inl rfl | exact Or.inr rfl) (by first | omega | (intro h; omega) | exact Or.inl rfl | exact Or.inr rfl) (by first | omega | (intro h; omega) | exact Or.inl rfl | exact Or.inr rfl) (by first | omega | (intro h; omega) | exact Or.inl rfl | exact Or.inr rfl))
              · have d_485 := iNe c_483
                exact (hp _ _ _ hR_465 hf_467 (by first | omega | (intro h; omega) | exact Or.inl rfl | exact Or.inr rfl) (by first | omega | (intro h; omega) | exact Or.inl rfl | exact Or.inr rfl) (by first | assumption | (intro h; have q := hq1 (by omega); omega)) (by first | assumption | (intro h; omega) | (intro h; simp only [Im] at *; omega)) (by first | omega | (intro h; omega) | exact Or.inl rfl | exact Or.inr rfl) (by first | omega | (intro h; omega) | exact Or.inl rfl | exact Or.inr rfl) (by first | omega | (intro h; omega) | exact Or.inl rfl | exact Or.inr rfl) (by first | omega | (intro h; omega) | exact Or.inl rfl | exact Or.inr rfl) (by first | omega | (intro h; omega) | exact Or.inl rfl | exact Or.inr rfl) (by first | omega | (intro h; omega) | exact Or.inl rfl | exact Or.inr rfl) (by first | omega | (intro h; omega) | exact Or.inl rfl | exact Or.inr rfl))
            · have d_486 := iNe c_476
              refine y_Model_next hok hw ra (by first | omega | (intro h; omega) | exact Or.inl rfl | exact Or.inr rfl) hR_465 (fun I_500 L_501 hR_502 fr_503 u_488 u_489 u_490 u_491 u_492 u_493 u_494 u_495 u_496 u_497 u_498 u_499 => ⟨I_500, L_501, rfl, rfl, ?_⟩)
              have hf_504 : Fm (fun c => c = o) I0 I_500 := hf_467.call fr_503 (fun c hc => by first | exact hc | (dsimp only at hc ⊢; omega) | omega)
              have g_505 : (0 : Int) ≤ (I_500 o 7).toInt ∧ (I_500 o 7).toInt ≤ 1601 := hR_502.at0 ra 7 (by decide)
              have g_506 : (0 : Int) ≤ (I_500 o 3).toInt ∧ (I_500 o 3).toInt ≤ 1600 := hR_502.at0 ra 3 (by decide)
              have g_507 : (0 : Int) ≤ (I_500 o 6).toInt ∧ (I_500 o 6).toInt ≤ 1600 := hR_502.at0 ra 6 (by decide)
              unfold fModel_numeral_69
              refine y_Model_isGood hok hw ra hR_502 (fun r_508 u_509 u_510 u_511 => ⟨r_508, I_500, L_501, rfl, rfl, ?_⟩)
              have b_512 : 0 ≤ r_508.toInt ∧ r_508.toInt ≤ 1 := u_509.rg
              refine ⟨fun c_513 => ?_, fun c_513 => ?_⟩
              · have d_514 := iEq c_513
                exact (hp _ _ _ hR_502 hf_504 (by first | omega | (intro h; omega) | exact Or.inl rfl | exact Or.inr rfl) (by first | omega | (intro h; omega) | exact Or.inl rfl | exact Or.inr rfl) (by first | assumption | (intro h; have q := hq1 (by omega); omega)) (by first | assumption | (intro h; omega) | (intro h; simp only [Im] at *; omega)) (by first | omega | (intro h; omega) | exact Or.inl rfl | exact Or.inr rfl) (by first | omega | (intro h; omega) | exact Or.inl rfl | exact Or.inr rfl) (by first | omega | (intro h; omega) | exact Or.inl rfl | exact Or.inr rfl) (by first | omega | (intro h; omega) | exact Or.inl rfl | exact Or.inr rfl) (by first | omega | (intro h; omega) | exact Or.inl rfl | exact Or.inr rfl) (by first | omega | (intro h; omega) | exact Or.inl rfl | exact Or.inr rfl) (by first | omega | (intro h; omega) | exact Or.inl rfl | exact Or.inr rfl))
              · have d_515 := iNe c_513
                exact (hp _ _ _ hR_502 hf_504 (by first | omega | (intro h; omega) | exact Or.inl rfl | exact Or.inr rfl) (by first | omega | (intro h; omega) | exact Or.inl rfl | exact Or.inr rfl) (by first | assumption | (intro h; have q := hq1 (by omega); omega)) (by first | assumption | (intro h; omega) | (intro h; simp only [Im] at *; omega)) (by first | omega | (intro h; omega) | exact Or.inl rfl | exact Or.inr rfl) (by first | omega | (intro h; omega) | exact Or.inl rfl | exact Or.inr rfl) (by first | omega | (intro h; omega) | exact Or.inl rfl | exact Or.inr rfl) (by first | omega | (intro h; omega) | exact Or.inl rfl | exact Or.inr rfl) (by first | omega | (intro h; omega) | exact Or.inl rfl | exact Or.inr rfl) (by first | omega | (intro h; omega) | exact Or.inl rfl | exact Or.inr rfl) (by first | omega | (intro h; omega) | exact Or.inl rfl | exact Or.inr rfl))
  · have d_516 := iEq c_9
    exact (hp _ _ _ hR hf (by first | omega | (intro h; omega) | exact Or.inl rfl | exact Or.inr rfl) (by first | omega | (intro h; omega) | exact Or.inl rfl | exact Or.inr rfl) (by first | assumption | (intro h; have q := hq1 (by omega); omega)) (by first | assumption | (intro h; omega) | (intro h; simp only [Im] at *; omega)) (by first | omega | (intro h; omega) | exact Or.inl rfl | exact Or.inr rfl) (by first | omega | (intro h; omega) | exact Or.inl rfl | exact Or.inr rfl) (by first | omega | (intro h; omega) | exact Or.inl rfl | exact Or.inr rfl) (by first | omega | (intro h; omega) | exact Or.inl rfl | exact Or.inr rfl) (by first | omega | (intro h; omega) | exact Or.inl rfl | exact Or.inr rfl) (by first | omega | (intro h; omega) | exact Or.inl rfl | exact Or.inr rfl) (by first | omega | (intro h; omega) | exact Or.inl rfl | exact Or.inr rfl))
set_option maxHeartbeats 4000000 in
set_option maxRecDepth 20000 in
theorem y_Model_newName {D : va_G} {cA : FieldType → ClassId} {b : Nat} {E : State → Prop} {R : qRg} {o n : Nat} {sh : Nat → qC} {Rf : Nat → Nat → Option Nat} {I0 : Nat → Nat → Int32} {L0 : Nat → Nat → Int64} {post : Option Value → qS → Prop} (hok : q_ok (qGG D cA b E)) (hw : WfModel (qGG D cA b E) n sh Rf o) (ra : RAModel R o) (hq0 : (I0 o 7).toInt ≤ (I0 o 3).toInt) (hq1 : Im ((I0 o 8).toInt = 5) (0 ≤ (I0 o 9).toInt ∧ (I0 o 9).toInt ≤ 15)) (hR : RI R I0) (hp : ∀ (r : Int64) (I' : Nat → Nat → Int32) (L' : Nat → Nat → Int64), RI R I' → Fm (fun c => c = o) I0 I' → ((I' o 7).toInt ≤ (I' o 3).toInt) → ((I0 o 7).toInt ≤ (I' o 7).toInt) → (Im ((I' o 8).toInt = 5) (0 ≤ (I' o 9).toInt ∧ (I' o 9).toInt ≤ 15)) → (Im ((I0 o 4).toInt ≠ 0) ((I' o 4).toInt ≠ 0)) → ((I' o 3).toInt = (I0 o 3).toInt) → ((I' o 44).toInt = (I0 o 44).toInt) → ((I' o 45).toInt = (I0 o 45).toInt) → ((I' o 46).toInt = (I0 o 46).toInt) → ((I' o 47).toInt = (I0 o 47).toInt) → ((I' o 48).toInt = (I0 o 48).toInt) → ((I' o 49).toInt = (I0 o 49).toInt) → post (some (.long r)) (n, sh, Rf, I', L')) : Ev (qGG D cA b E) mModel_newName 4 (0, 0) 0 (lv_args 0 [.ref o]) [] (n, sh, Rf, I0, L0) post := by
  have hf : Fm (fun c => c = o) I0 I0 := Fm.rf
  have g_1 : (0 : Int) ≤ (I0 o 7).toInt ∧ (I0 o 7).toInt ≤ 1601 := hR.at0 ra 7 (by decide)
  have g_2 : (0 : Int) ≤ (I0 o 3).toInt ∧ (I0 o 3).toInt ≤ 1600 := hR.at0 ra 3 (by decide)
  refine sModel_newName_0 o n sh Rf I0 L0 post  hok hw ?_
  unfold fModel_newName_0
  refine y_Model_isGood hok hw ra hR (fun r_3 u_4 u_5 u_6 => ⟨r_3, I0, L0, rfl, rfl, ?_⟩)
  have b_7 : 0 ≤ r_3.toInt ∧ r_3.toInt ≤ 1 := u_4.rg
  have l_8 : (0 : Int32).toInt = 0 := rfl
  refine ⟨fun c_9 => ?_, fun c_9 => ?_⟩
  · have d_10 := iEq c_9
    unfold fModel_newName_37
    have l_11 : (2 : Int32).toInt = 2 := rfl
    refine ⟨fun c_12 => ?_, fun c_12 => ?_⟩
    · have d_13 := iNe c_12
      unfold fModel_newName_51
      refine y_Model_must hok hw ra (by first | omega | (intro h; omega) | exact Or.inl rfl | exact Or.inr rfl) (by first | assumption | (intro h; have q := hq1 (by omega); omega)) hR (fun I_27 L_28 hR_29 fr_30 u_15 u_16 u_17 u_18 u_19 u_20 u_21 u_22 u_23 u_24 u_25 u_26 => ⟨I_27, L_28, rfl, rfl, ?_⟩)
      have hf_31 : Fm (fun c => c = o) I0 I_27 := hf.call fr_30 (fun c hc => by first | exact hc | (dsimp only at hc ⊢; omega) | omega)
      have g_32 : (0 : Int) ≤ (I_27 o 7).toInt ∧ (I_27 o 7).toInt ≤ 1601 := hR_29.at0 ra 7 (by decide)
      have g_33 : (0 : Int) ≤ (I_27 o 3).toInt ∧ (I_27 o 3).toInt ≤ 1600 := hR_29.at0 ra 3 (by decide)
      have l_34 : (24948 : Int32).toInt = 24948 := rfl
      refine y_Model_isWord hok hw ra hR_29 (fun r_35 u_36 u_37 => ⟨r_35, I_27, L_28, rfl, rfl, ?_⟩)
      have b_38 : 0 ≤ r_35.toInt ∧ r_35.toInt ≤ 1 := u_36.rg
      refine y_Model_must hok hw ra (by first | omega | (intro h; omega) | exact Or.inl rfl | exact Or.inr rfl) (by first | assumption | (intro h; have q := hq1 (by omega); omega)) hR_29 (fun I_52 L_53 hR_54 fr_55 u_40 u_41 u_42 u_43 u_44 u_45 u_46 u_47 u_48 u_49 u_50 u_51 => ⟨I_52, L_53, rfl, rfl, ?_⟩)
      have hf_56 : Fm (fun c => c = o) I0 I_52 := hf_31.call fr_55 (fun c hc => by first | exact hc | (dsimp only at hc ⊢; omega) | omega)
      have g_57 : (0 : Int) ≤ (I_52 o 7).toInt ∧ (I_52 o 7).toInt ≤ 1601 := hR_54.at0 ra 7 (by decide)
      have g_58 : (0 : Int) ≤ (I_52 o 3).toInt ∧ (I_52 o 3).toInt ≤ 1600 := hR_54.at0 ra 3 (by decide)
      exact (hp _ _ _ hR_54 hf_56 (by first | omega | (intro h; omega) | exact Or.inl rfl | exact Or.inr rfl) (by first | omega | (intro h; omega) | exact Or.inl rfl | exact Or.inr rfl) (by first | assumption | (intro h; have q := hq1 (by omega); omega)) (by first | assumption | (intro h; omega) | (intro h; simp only [Im] at *; omega)) (by first | omega | (intro h; omega) | exact Or.inl rfl | exact Or.inr rfl) (by first | omega | (intro h; omega) | exact Or.inl rfl | exact Or.inr rfl) (by first | omega | (intro h; omega) | exact Or.inl rfl | exact Or.inr rfl) (by first | omega | (intro h; omega) | exact Or.inl rfl | exact Or.inr rfl) (by first | omega | (intro h; omega) | exact Or.inl rfl | exact Or.inr rfl) (by first | omega | (intro h; omega) | exact Or.inl rfl | exact Or.inr rfl) (by first | omega | (intro h; omega) | exact Or.inl rfl | exact Or.inr rfl))
    · have d_59 := iEq c_12
      unfold fModel_newName_51
      have l_60 : (1 : Int32).toInt = 1 := rfl
      refine y_Model_must hok hw ra (by first | omega | (intro h; omega) | exact Or.inl rfl | exact Or.inr rfl) (by first | assumption | (intro h; have q := hq1 (by omega); omega)) hR (fun I_74 L_75 hR_76 fr_77 u_62 u_63 u_64 u_65 u_66 u_67 u_68 u_69 u_70 u_71 u_72 u_73 => ⟨I_74, L_75, rfl, rfl, ?_⟩)
      have hf_78 : Fm (fun c => c = o) I0 I_74 := hf.call fr_77 (fun c hc => by first | exact hc | (dsimp only at hc ⊢; omega) | omega)
      have g_79 : (0 : Int) ≤ (I_74 o 7).toInt ∧ (I_74 o 7).toInt ≤ 1601 := hR_76.at0 ra 7 (by decide)
      have g_80 : (0 : Int) ≤ (I_74 o 3).toInt ∧ (I_74 o 3).toInt ≤ 1600 := hR_76.at0 ra 3 (by decide)
      have l_81 : (24948 : Int32).toInt = 24948 := rfl
      refine y_Model_isWord hok hw ra hR_76 (fun r_82 u_83 u_84 => ⟨r_82, I_74, L_75, rfl, rfl, ?_⟩)
      have b_85 : 0 ≤ r_82.toInt ∧ r_82.toInt ≤ 1 := u_83.rg
      refine y_Model_must hok hw ra (by first | omega | (intro h; omega) | exact Or.inl rfl | exact Or.inr rfl) (by first | assumption | (intro h; have q := hq1 (by omega); omega)) hR_76 (fun I_99 L_100 hR_101 fr_102 u_87 u_88 u_89 u_90 u_91 u_92 u_93 u_94 u_95 u_96 u_97 u_98 => ⟨I_99, L_100, rfl, rfl, ?_⟩)
      have hf_103 : Fm (fun c => c = o) I0 I_99 := hf_78.call fr_102 (fun c hc => by first | exact hc | (dsimp only at hc ⊢; omega) | omega)
      have g_104 : (0 : Int) ≤ (I_99 o 7).toInt ∧ (I_99 o 7).toInt ≤ 1601 := hR_101.at0 ra 7 (by decide)
      have g_105 : (0 : Int) ≤ (I_99 o 3).toInt ∧ (I_99 o 3).toInt ≤ 1600 := hR_101.at0 ra 3 (by decide)
      exact (hp _ _ _ hR_101 hf_103 (by first | omega | (intro h; omega) | exact Or.inl rfl | exact Or.inr rfl) (by first | omega | (intro h; omega) | exact Or.inl rfl | exact Or.inr rfl) (by first | assumption | (intro h; have q := hq1 (by omega); omega)) (by first | assumption | (intro h; omega) | (intro h; simp only [Im] at *; omega)) (by first | omega | (intro h; omega) | exact Or.inl rfl | exact Or.inr rfl) (by first | omega | (intro h; omega) | exact Or.inl rfl | exact Or.inr rfl) (by first | omega | (intro h; omega) | exact Or.inl rfl | exact Or.inr rfl) (by first | omega | (intro h; omega) | exact Or.inl rfl | exact Or.inr rfl) (by first | omega | (intro h; omega) | exact Or.inl rfl | exact Or.inr rfl) (by first | omega | (intro h; omega) | exact Or.inl rfl | exact Or.inr rfl) (by first | omega | (intro h; omega) | exact Or.inl rfl | exact Or.inr rfl))
  · have d_106 := iNe c_9
    have l_107 : (2 : Int32).toInt = 2 := rfl
    refine ⟨fun c_108 => ?_, fun c_108 => ?_⟩
    · have d_109 := iNe c_108
      unfold fModel_newName_37
      refine ⟨fun c_110 => ?_, fun c_110 => ?_⟩
      · have d_111 := iNe c_110
        unfold fModel_newName_51
        refine y_Model_must hok hw ra (by first | omega | (intro h; omega) | exact Or.inl rfl | exact Or.inr rfl) (by first | assumption | (intro h; have q := hq1 (by omega); omega)) hR (fun I_125 L_126 hR_127 fr_128 u_113 u_114 u_115 u_116 u_117 u_118 u_119 u_120 u_121 u_122 u_123 u_124 => ⟨I_125, L_126, rfl, rfl, ?_⟩)
        have hf_129 : Fm (fun c => c = o) I0 I_125 := hf.call fr_128 (fun c hc => by first | exact hc | (dsimp only at hc ⊢; omega) | omega)
        have g_130 : (0 : Int) ≤ (I_125 o 7).toInt ∧ (I_125 o 7).toInt ≤ 1601 := hR_127.at0 ra 7 (by decide)
        have g_131 : (0 : Int) ≤ (I_125 o 3).toInt ∧ (I_125 o 3).toInt ≤ 1600 := hR_127.at0 ra 3 (by decide)
        have l_132 : (24948 : Int32).toInt = 24948 := rfl
        refine y_Model_isWord hok hw ra hR_127 (fun r_133 u_134 u_135 => ⟨r_133, I_125, L_126, rfl, rfl, ?_⟩)
        have b_136 : 0 ≤ r_133.toInt ∧ r_133.toInt ≤ 1 := u_134.rg
        refine y_Model_must hok hw ra (by first | omega | (intro h; omega) | exact Or.inl rfl | exact Or.inr rfl) (by first | assumption | (intro h; have q := hq1 (by omega); omega)) hR_127 (fun I_150 L_151 hR_152 fr_153 u_138 u_139 u_140 u_141 u_142 u_143 u_144 u_145 u_146 u_147 u_148 u_149 => ⟨I_150, L_151, rfl, rfl, ?_⟩)
        have hf_154 : Fm (fun c => c = o) I0 I_150 := hf_129.call fr_153 (fun c hc => by first | exact hc | (dsimp only at hc ⊢; omega) | omega)
        have g_155 : (0 : Int) ≤ (I_150 o 7).toInt ∧ (I_150 o 7).toInt ≤ 1601 := hR_152.at0 ra 7 (by decide)
        have g_156 : (0 : Int) ≤ (I_150 o 3).toInt ∧ (I_150 o 3).toInt ≤ 1600 := hR_152.at0 ra 3 (by decide)
        exact (hp _ _ _ hR_152 hf_154 (by first | omega | (intro h; omega) | exact Or.inl rfl | exact Or.inr rfl) (by first | omega | (intro h; omega) | exact Or.inl rfl | exact Or.inr rfl) (by first | assumption | (intro h; have q := hq1 (by omega); omega)) (by first | assumption | (intro h; omega) | (intro h; simp only [Im] at *; omega)) (by first | omega | (intro h; omega) | exact Or.inl rfl | exact Or.inr rfl) (by first | omega | (intro h; omega) | exact Or.inl rfl | exact Or.inr rfl) (by first | omega | (intro h; omega) | exact Or.inl rfl | exact Or.inr rfl) (by first | omega | (intro h; omega) | exact Or.inl rfl | exact Or.inr rfl) (by first | omega | (intro h; omega) | exact Or.inl rfl | exact Or.inr rfl) (by first | omega | (intro h; omega) | exact Or.inl rfl | exact Or.inr rfl) (by first | omega | (intro h; omega) | exact Or.inl rfl | exact Or.inr rfl))
      · have d_157 := iEq c_110
        unfold fModel_newName_51
        have l_158 : (1 : Int32).toInt = 1 := rfl
        refine y_Model_must hok hw ra (by first | omega | (intro h; omega) | exact Or.inl rfl | exact Or.inr rfl) (by first | assumption | (intro h; have q := hq1 (by omega); omega)) hR (fun I_172 L_173 hR_174 fr_175 u_160 u_161 u_162 u_163 u_164 u_165 u_166 u_167 u_168 u_169 u_170 u_171 => ⟨I_172, L_173, rfl, rfl, ?_⟩)
        have hf_176 : Fm (fun c => c = o) I0 I_172 := hf.call fr_175 (fun c hc => by first | exact hc | (dsimp only at hc ⊢; omega) | omega)
        have g_177 : (0 : Int) ≤ (I_172 o 7).toInt ∧ (I_172 o 7).toInt ≤ 1601 := hR_174.at0 ra 7 (by decide)
        have g_178 : (0 : Int) ≤ (I_172 o 3).toInt ∧ (I_172 o 3).toInt ≤ 1600 := hR_174.at0 ra 3 (by decide)
        have l_179 : (24948 : Int32).toInt = 24948 := rfl
        refine y_Model_isWord hok hw ra hR_174 (fun r_180 u_181 u_182 => ⟨r_180, I_172, L_173, rfl, rfl, ?_⟩)
        have b_183 : 0 ≤ r_180.toInt ∧ r_180.toInt ≤ 1 := u_181.rg
        refine y_Model_must hok hw ra (by first | omega | (intro h; omega) | exact Or.inl rfl | exact Or.inr rfl) (by first | assumption | (intro h; have q := hq1 (by omega); omega)) hR_174 (fun I_197 L_198 hR_199 fr_200 u_185 u_186 u_187 u_188 u_189 u_190 u_191 u_192 u_193 u_194 u_195 u_196 => ⟨I_197, L_198, rfl, rfl, ?_⟩)
        have hf_201 : Fm (fun c => c = o) I0 I_197 := hf_176.call fr_200 (fun c hc => by first | exact hc | (dsimp only at hc ⊢; omega) | omega)
        have g_202 : (0 : Int) ≤ (I_197 o 7).toInt ∧ (I_197 o 7).toInt ≤ 1601 := hR_199.at0 ra 7 (by decide)
        have g_203 : (0 : Int) ≤ (I_197 o 3).toInt ∧ (I_197 o 3).toInt ≤ 1600 := hR_199.at0 ra 3 (by decide)
        exact (hp _ _ _ hR_199 hf_201 (by first | omega | (intro h; omega) | exact Or.inl rfl | exact Or.inr rfl) (by first | omega | (intro h; omega) | exact Or.inl rfl | exact Or.inr rfl) (by first | assumption | (intro h; have q := hq1 (by omega); omega)) (by first | assumption | (intro h; omega) | (intro h; simp only [Im] at *; omega)) (by first | omega | (intro h; omega) | exact Or.inl rfl | exact Or.inr rfl) (by first | omega | (intro h; omega) | exact Or.inl rfl | exact Or.inr rfl) (by first | omega | (intro h; omega) | exact Or.inl rfl | exact Or.inr rfl) (by first | omega | (intro h; omega) | exact Or.inl rfl | exact Or.inr rfl) (by first | omega | (intro h; omega) | exact Or.inl rfl | exact Or.inr rfl) (by first | omega | (intro h; omega) | exact Or.inl rfl | exact Or.inr rfl) (by first | omega | (intro h; omega) | exact Or.inl rfl | exact Or.inr rfl))
    · have d_204 := iEq c_108
      refine y_Model_isTold hok hw ra hR (fun r_205 u_206 => ⟨r_205, I0, L0, rfl, rfl, ?_⟩)
      have b_207 : 0 ≤ r_205.toInt ∧ r_205.toInt ≤ 1 := u_206.rg
      refine ⟨fun c_208 => ?_, fun c_208 => ?_⟩
      · have d_209 := iEq c_208
        unfold fModel_newName_37
        refine ⟨fun c_210 => ?_, fun c_210 => ?_⟩
        · have d_211 := iNe c_210
          exfalso; omega
        · have d_212 := iEq c_210
          unfold fModel_newName_51
          have l_213 : (1 : Int32).toInt = 1 := rfl
          refine y_Model_must hok hw ra (by first | omega | (intro h; omega) | exact Or.inl rfl | exact Or.inr rfl) (by first | assumption | (intro h; have q := hq1 (by omega); omega)) hR (fun I_227 L_228 hR_229 fr_230 u_215 u_216 u_217 u_218 u_219 u_220 u_221 u_222 u_223 u_224 u_225 u_226 => ⟨I_227, L_228, rfl, rfl, ?_⟩)
          have hf_231 : Fm (fun c => c = o) I0 I_227 := hf.call fr_230 (fun c hc => by first | exact hc | (dsimp only at hc ⊢; omega) | omega)
          have g_232 : (0 : Int) ≤ (I_227 o 7).toInt ∧ (I_227 o 7).toInt ≤ 1601 := hR_229.at0 ra 7 (by decide)
          have g_233 : (0 : Int) ≤ (I_227 o 3).toInt ∧ (I_227 o 3).toInt ≤ 1600 := hR_229.at0 ra 3 (by decide)
          have l_234 : (24948 : Int32).toInt = 24948 := rfl
          refine y_Model_isWord hok hw ra hR_229 (fun r_235 u_236 u_237 => ⟨r_235, I_227, L_228, rfl, rfl, ?_⟩)
          have b_238 : 0 ≤ r_235.toInt ∧ r_235.toInt ≤ 1 := u_236.rg
          refine y_Model_must hok hw ra (by first | omega | (intro h; omega) | exact Or.inl rfl | exact Or.inr rfl) (by first | assumption | (intro h; have q := hq1 (by omega); omega)) hR_229 (fun I_252 L_253 hR_254 fr_255 u_240 u_241 u_242 u_243 u_244 u_245 u_246 u_247 u_248 u_249 u_250 u_251 => ⟨I_252, L_253, rfl, rfl, ?_⟩)
          have hf_256 : Fm (fun c => c = o) I0 I_252 := hf_231.call fr_255 (fun c hc => by first | exact hc | (dsimp only at hc ⊢; omega) | omega)
          have g_257 : (0 : Int) ≤ (I_252 o 7).toInt ∧ (I_252 o 7).toInt ≤ 1601 := hR_254.at0 ra 7 (by decide)
          have g_258 : (0 : Int) ≤ (I_252 o 3).toInt ∧ (I_252 o 3).toInt ≤ 1600 := hR_254.at0 ra 3 (by decide)
          exact (hp _ _ _ hR_254 hf_256 (by first | omega | (intro h; omega) | exact Or.inl rfl | exact Or.inr rfl) (by first | omega | (intro h; omega) | exact Or.inl rfl | exact Or.inr rfl) (by first | assumption | (intro h; have q := hq1 (by omega); omega)) (by first | assumption | (intro h; omega) | (intro h; simp only [Im] at *; omega)) (by first | omega | (intro h; omega) | exact Or.inl rfl | exact Or.inr rfl) (by first | omega | (intro h; omega) | exact Or.inl rfl | exact Or.inr rfl) (by first | omega | (intro h; omega) | exact Or.inl rfl | exact Or.inr rfl) (by first | omega | (intro h; omega) | exact Or.inl rfl | exact Or.inr rfl) (by first | omega | (intro h; omega) | exact Or.inl rfl | exact Or.inr rfl) (by first | omega | (intro h; omega) | exact Or.inl rfl | exact Or.inr rfl) (by first | omega | (intro h; omega) | exact Or.inl rfl | exact Or.inr rfl))
      · have d_259 := iNe c_208
        have g_260 : (0 : Int) ≤ (I0 o 6).toInt ∧ (I0 o 6).toInt ≤ 1600 := hR.at0 ra 6 (by decide)
        have l_261 : (3 : Int32).toInt = 3 := rfl
        refine y_Model_fails hok hw ra (by first | omega | (intro h; omega) | exact Or.inl rfl | exact Or.inr rfl) hR (fun I_277 L_278 hR_279 fr_280 u_263 u_264 u_265 u_266 u_267 u_268 u_269 u_270 u_271 u_272 u_273 u_274 u_275 u_276 => ⟨I_277, L_278, rfl, rfl, ?_⟩)
        have hf_281 : Fm (fun c => c = o) I0 I_277 := hf.call fr_280 (fun c hc => by first | exact hc | (dsimp only at hc ⊢; omega) | omega)
        have g_282 : (0 : Int) ≤ (I_277 o 7).toInt ∧ (I_277 o 7).toInt ≤ 1601 := hR_279.at0 ra 7 (by decide)
        have g_283 : (0 : Int) ≤ (I_277 o 3).toInt ∧ (I_277 o 3).toInt ≤ 1600 := hR_279.at0 ra 3 (by decide)
        have g_284 : (0 : Int) ≤ (I_277 o 6).toInt ∧ (I_277 o 6).toInt ≤ 1600 := hR_279.at0 ra 6 (by decide)
        unfold fModel_newName_37
        refine ⟨fun c_285 => ?_, fun c_285 => ?_⟩
        · have d_286 := iNe c_285
          unfold fModel_newName_51
          refine y_Model_must hok hw ra (by first | omega | (intro h; omega) | exact Or.inl rfl | exact Or.inr rfl) (by first | assumption | (intro h; have q := hq1 (by omega); omega)) hR_279 (fun I_300 L_301 hR_302 fr_303 u_288 u_289 u_290 u_291 u_292 u_293 u_294 u_295 u_296 u_297 u_298 u_299 => ⟨I_300, L_301, rfl, rfl, ?_⟩)
          have hf_304 : Fm (fun c => c = o) I0 I_300 := hf_281.call fr_303 (fun c hc => by first | exact hc | (dsimp only at hc ⊢; omega) | omega)
          have g_305 : (0 : Int) ≤ (I_300 o 7).toInt ∧ (I_300 o 7).toInt ≤ 1601 := hR_302.at0 ra 7 (by decide)
          have g_306 : (0 : Int) ≤ (I_300 o 3).toInt ∧ (I_300 o 3).toInt ≤ 1600 := hR_302.at0 ra 3 (by decide)
          have g_307 : (0 : Int) ≤ (I_300 o 6).toInt ∧ (I_300 o 6).toInt ≤ 1600 := hR_302.at0 ra 6 (by decide)
          have l_308 : (24948 : Int32).toInt = 24948 := rfl
          refine y_Model_isWord hok hw ra hR_302 (fun r_309 u_310 u_311 => ⟨r_309, I_300, L_301, rfl, rfl, ?_⟩)
          have b_312 : 0 ≤ r_309.toInt ∧ r_309.toInt ≤ 1 := u_310.rg
          refine y_Model_must hok hw ra (by first | omega | (intro h; omega) | exact Or.inl rfl | exact Or.inr rfl) (by first | assumption | (intro h; have q := hq1 (by omega); omega)) hR_302 (fun I_326 L_327 hR_328 fr_329 u_314 u_315 u_316 u_317 u_318 u_319 u_320 u_321 u_322 u_323 u_324 u_325 => ⟨I_326, L_327, rfl, rfl, ?_⟩)
          have hf_330 : Fm (fun c => c = o) I0 I_326 := hf_304.call fr_329 (fun c hc => by first | exact hc | (dsimp only at hc ⊢; omega) | omega)
          have g_331 : (0 : Int) ≤ (I_326 o 7).toInt ∧ (I_326 o 7).toInt ≤ 1601 := hR_328.at0 ra 7 (by decide)
          have g_332 : (0 : Int) ≤ (I_326 o 3).toInt ∧ (I_326 o 3).toInt ≤ 1600 := hR_328.at0 ra 3 (by decide)
          have g_333 : (0 : Int) ≤ (I_326 o 6).toInt ∧ (I_326 o 6).toInt ≤ 1600 := hR_328.at0 ra 6 (by decide)
          exact (hp _ _ _ hR_328 hf_330 (by first | omega | (intro h; omega) | exact Or.inl rfl | exact Or.inr rfl) (by first | omega | (intro h; omega) | exact Or.inl rfl | exact Or.inr rfl) (by first | assumption | (intro h; have q := hq1 (by omega); omega)) (by first | assumption | (intro h; omega) | (intro h; simp only [Im] at *; omega)) (by first | omega | (intro h; omega) | exact Or.inl rfl | exact Or.inr rfl) (by first | omega | (intro h; omega) | exact Or.inl rfl | exact Or.inr rfl) (by first | omega | (intro h; omega) | exact Or.inl rfl | exact Or.inr rfl) (by first | omega | (intro h; omega) | exact Or.inl rfl | exact Or.inr rfl) (by first | omega | (intro h; omega) | exact Or.inl rfl | exact Or.inr rfl) (by first | omega | (intro h; omega) | exact Or.inl rfl | exact Or.inr rfl) (by first | omega | (intro h; omega) | exact Or.inl rfl | exact Or.inr rfl))
        · have d_334 := iEq c_285
          unfold fModel_newName_51
          have l_335 : (1 : Int32).toInt = 1 := rfl
          refine y_Model_must hok hw ra (by first | omega | (intro h; omega) | exact Or.inl rfl | exact Or.inr rfl) (by first | assumption | (intro h; have q := hq1 (by omega); omega)) hR_279 (fun I_349 L_350 hR_351 fr_352 u_337 u_338 u_339 u_340 u_341 u_342 u_343 u_344 u_345 u_346 u_347 u_348 => ⟨I_349, L_350, rfl, rfl, ?_⟩)
          have hf_353 : Fm (fun c => c = o) I0 I_349 := hf_281.call fr_352 (fun c hc => by first | exact hc | (dsimp only at hc ⊢; omega) | omega)
          have g_354 : (0 : Int) ≤ (I_349 o 7).toInt ∧ (I_349 o 7).toInt ≤ 1601 := hR_351.at0 ra 7 (by decide)
          have g_355 : (0 : Int) ≤ (I_349 o 3).toInt ∧ (I_349 o 3).toInt ≤ 1600 := hR_351.at0 ra 3 (by decide)
          have g_356 : (0 : Int) ≤ (I_349 o 6).toInt ∧ (I_349 o 6).toInt ≤ 1600 := hR_351.at0 ra 6 (by decide)
          have l_357 : (24948 : Int32).toInt = 24948 := rfl
          refine y_Model_isWord hok hw ra hR_351 (fun r_358 u_359 u_360 => ⟨r_358, I_349, L_350, rfl, rfl, ?_⟩)
          have b_361 : 0 ≤ r_358.toInt ∧ r_358.toInt ≤ 1 := u_359.rg
          refine y_Model_must hok hw ra (by first | omega | (intro h; omega) | exact Or.inl rfl | exact Or.inr rfl) (by first | assumption | (intro h; have q := hq1 (by omega); omega)) hR_351 (fun I_375 L_376 hR_377 fr_378 u_363 u_364 u_365 u_366 u_367 u_368 u_369 u_370 u_371 u_372 u_373 u_374 => ⟨I_375, L_376, rfl, rfl, ?_⟩)
          have hf_379 : Fm (fun c => c = o) I0 I_375 := hf_353.call fr_378 (fun c hc => by first | exact hc | (dsimp only at hc ⊢; omega) | omega)
          have g_380 : (0 : Int) ≤ (I_375 o 7).toInt ∧ (I_375 o 7).toInt ≤ 1601 := hR_377.at0 ra 7 (by decide)
          have g_381 : (0 : Int) ≤ (I_375 o 3).toInt ∧ (I_375 o 3).toInt ≤ 1600 := hR_377.at0 ra 3 (by decide)
          have g_382 : (0 : Int) ≤ (I_375 o 6).toInt ∧ (I_375 o 6).toInt ≤ 1600 := hR_377.at0 ra 6 (by decide)
          exact (hp _ _ _ hR_377 hf_379 (by first | omega | (intro h; omega) | exact Or.inl rfl | exact Or.inr rfl) (by first | omega | (intro h; omega) | exact Or.inl rfl | exact Or.inr rfl) (by first | assumption | (intro h; have q := hq1 (by omega); omega)) (by first | assumption | (intro h; omega) | (intro h; simp only [Im] at *; omega)) (by first | omega | (intro h; omega) | exact Or.inl rfl | exact Or.inr rfl) (by first | omega | (intro h; omega) | exact Or.inl rfl | exact Or.inr rfl) (by first | omega | (intro h; omega) | exact Or.inl rfl | exact Or.inr rfl) (by first | omega | (intro h; omega) | exact Or.inl rfl | exact Or.inr rfl) (by first | omega | (intro h; omega) | exact Or.inl rfl | exact Or.inr rfl) (by first | omega | (intro h; omega) | exact Or.inl rfl | exact Or.inr rfl) (by first | omega | (intro h; omega) | exact Or.inl rfl | exact Or.inr rfl))
