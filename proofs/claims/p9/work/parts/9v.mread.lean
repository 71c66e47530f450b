/-! Safety of the reference, numeral and newName: by program (spec.py). -/
set_option maxHeartbeats 4000000 in
set_option maxRecDepth 20000 in
theorem y_Model_numeral {D : va_G} {cA : FieldType → ClassId} {b : Nat} {E : State → Prop} {R : qRg} {o n : Nat} {sh : Nat → qC} {Rf : Nat → Nat → Option Nat} {I0 : Nat → Nat → Int32} {L0 : Nat → Nat → Int64} {post : Option Value → qS → Prop} {p1 : Int32} {p2 : Int32} (hok : q_ok (qGG D cA b E)) (hw : WfModel (qGG D cA b E) n sh Rf o) (ra : RAModel R o) (hq0 : (I0 o 7).toInt ≤ (I0 o 3).toInt) (hq1 : Im ((I0 o 8).toInt = 5) (0 ≤ (I0 o 9).toInt ∧ (I0 o 9).toInt ≤ 15)) (hR : RI R I0) (hp : ∀ (r : Int32) (I' : Nat → Nat → Int32) (L' : Nat → Nat → Int64), RI R I' → Fm (fun c => c = o) I0 I' → ((I' o 7).toInt ≤ (I' o 3).toInt) → ((I0 o 7).toInt ≤ (I' o 7).toInt) → (Im ((I' o 8).toInt = 5) (0 ≤ (I' o 9).toInt ∧ (I' o 9).toInt ≤ 15)) → (Im ((I0 o 4).toInt ≠ 0) ((I' o 4).toInt ≠ 0)) → ((I' o 3).toInt = (I0 o 3).toInt) → ((I' o 35).toInt = (I0 o 35).toInt) → ((I' o 44).toInt = (I0 o 44).toInt) → ((I' o 45).toInt = (I0 o 45).toInt) → ((I' o 46).toInt = (I0 o 46).toInt) → ((I' o 47).toInt = (I0 o 47).toInt) → ((I' o 48).toInt = (I0 o 48).toInt) → ((I' o 49).toInt = (I0 o 49).toInt) → ((I' o 67).toInt = (I0 o 67).toInt) → post (some (.int r)) (n, sh, Rf, I', L')) : Ev (qGG D cA b E) mModel_numeral 3 (0, 0) 0 (lv_args 0 [.ref o, .int p1, .int p2]) [] (n, sh, Rf, I0, L0) post := by
  have hf : Fm (fun c => c = o) I0 I0 := Fm.rf
  have g_1 : (0 : Int) ≤ (I0 o 7).toInt ∧ (I0 o 7).toInt ≤ 1601 := hR.at0 ra 7 (by decide)
  have g_2 : (0 : Int) ≤ (I0 o 3).toInt ∧ (I0 o 3).toInt ≤ 1600 := hR.at0 ra 3 (by decide)
  have g_3 : (0 : Int) ≤ (I0 o 35).toInt ∧ (I0 o 35).toInt ≤ 1 := hR.at0 ra 35 (by decide)
  have g_4 : (0 : Int) ≤ (I0 o 67).toInt ∧ (I0 o 67).toInt ≤ 40 := hR.at0 ra 67 (by decide)
  refine sModel_numeral_0 o n sh Rf I0 L0 post p1 p2 hok hw ?_
  unfold fModel_numeral_0
  refine y_Model_isGood hok hw ra hR (fun r_5 u_6 u_7 u_8 => ⟨r_5, I0, L0, rfl, rfl, ?_⟩)
  have b_9 : 0 ≤ r_5.toInt ∧ r_5.toInt ≤ 1 := u_6.rg
  have l_10 : (0 : Int32).toInt = 0 := rfl
  refine ⟨fun c_11 => ?_, fun c_11 => ?_⟩
  · have d_12 := iNe c_11
    have gd := u_7 (by omega)
    have l_13 : (4 : Int32).toInt = 4 := rfl
    refine ⟨fun c_14 => ?_, fun c_14 => ?_⟩
    · have d_15 := iEq c_14
      unfold fModel_numeral_21
      refine y_Model_isGood hok hw ra hR (fun r_16 u_17 u_18 u_19 => ⟨r_16, I0, L0, rfl, rfl, ?_⟩)
      have b_20 : 0 ≤ r_16.toInt ∧ r_16.toInt ≤ 1 := u_17.rg
      refine ⟨fun c_21 => ?_, fun c_21 => ?_⟩
      · have d_22 := iEq c_21
        unfold fModel_numeral_53
        refine y_Model_isGood hok hw ra hR (fun r_23 u_24 u_25 u_26 => ⟨r_23, I0, L0, rfl, rfl, ?_⟩)
        have b_27 : 0 ≤ r_23.toInt ∧ r_23.toInt ≤ 1 := u_24.rg
        refine ⟨fun c_28 => ?_, fun c_28 => ?_⟩
        · have d_29 := iEq c_28
          unfold fModel_numeral_69
          refine y_Model_isGood hok hw ra hR (fun r_30 u_31 u_32 u_33 => ⟨r_30, I0, L0, rfl, rfl, ?_⟩)
          have b_34 : 0 ≤ r_30.toInt ∧ r_30.toInt ≤ 1 := u_31.rg
          refine ⟨fun c_35 => ?_, fun c_35 => ?_⟩
          · have d_36 := iEq c_35
            exact (hp _ _ _ hR hf (by first | omega | (intro h; omega) | exact Or.inl rfl | exact Or.inr rfl) (by first | omega | (intro h; omega) | exact Or.inl rfl | exact Or.inr rfl) (by first | assumption | (intro h; have q := hq1 (by omega); omega)) (by first | assumption | (intro h; omega) | (intro h; simp only [Im] at *; omega)) (by first | omega | (intro h; omega) | exact Or.inl rfl | exact Or.inr rfl) (by first | omega | (intro h; omega) | exact Or.inl rfl | exact Or.inr rfl) (by first | omega | (intro h; omega) | exact Or.inl rfl | exact Or.inr rfl) (by first | omega | (intro h; omega) | exact Or.inl rfl | exact Or.inr rfl) (by first | omega | (intro h; omega) | exact Or.inl rfl | exact Or.inr rfl) (by first | omega | (intro h; omega) | exact Or.inl rfl | exact Or.inr rfl) (by first | omega | (intro h; omega) | exact Or.inl rfl | exact Or.inr rfl) (by first | omega | (intro h; omega) | exact Or.inl rfl | exact Or.inr rfl) (by first | omega | (intro h; omega) | exact Or.inl rfl | exact Or.inr rfl))
          · have d_37 := iNe c_35
            exact (hp _ _ _ hR hf (by first | omega | (intro h; omega) | exact Or.inl rfl | exact Or.inr rfl) (by first | omega | (intro h; omega) | exact Or.inl rfl | exact Or.inr rfl) (by first | assumption | (intro h; have q := hq1 (by omega); omega)) (by first | assumption | (intro h; omega) | (intro h; simp only [Im] at *; omega)) (by first | omega | (intro h; omega) | exact Or.inl rfl | exact Or.inr rfl) (by first | omega | (intro h; omega) | exact Or.inl rfl | exact Or.inr rfl) (by first | omega | (intro h; omega) | exact Or.inl rfl | exact Or.inr rfl) (by first | omega | (intro h; omega) | exact Or.inl rfl | exact Or.inr rfl) (by first | omega | (intro h; omega) | exact Or.inl rfl | exact Or.inr rfl) (by first | omega | (intro h; omega) | exact Or.inl rfl | exact Or.inr rfl) (by first | omega | (intro h; omega) | exact Or.inl rfl | exact Or.inr rfl) (by first | omega | (intro h; omega) | exact Or.inl rfl | exact Or.inr rfl) (by first | omega | (intro h; omega) | exact Or.inl rfl | exact Or.inr rfl))
        · have d_38 := iNe c_28
          refine y_Model_next hok hw ra (by first | omega | (intro h; omega) | exact Or.inl rfl | exact Or.inr rfl) hR (fun I_54 L_55 hR_56 fr_57 u_40 u_41 u_42 u_43 u_44 u_45 u_46 u_47 u_48 u_49 u_50 u_51 u_52 u_53 => ⟨I_54, L_55, rfl, rfl, ?_⟩)
          have hf_58 : Fm (fun c => c = o) I0 I_54 := hf.call fr_57 (fun c hc => by first | exact hc | (dsimp only at hc ⊢; omega) | omega)
          have g_59 : (0 : Int) ≤ (I_54 o 7).toInt ∧ (I_54 o 7).toInt ≤ 1601 := hR_56.at0 ra 7 (by decide)
          have g_60 : (0 : Int) ≤ (I_54 o 3).toInt ∧ (I_54 o 3).toInt ≤ 1600 := hR_56.at0 ra 3 (by decide)
          have g_61 : (0 : Int) ≤ (I_54 o 35).toInt ∧ (I_54 o 35).toInt ≤ 1 := hR_56.at0 ra 35 (by decide)
          have g_62 : (0 : Int) ≤ (I_54 o 67).toInt ∧ (I_54 o 67).toInt ≤ 40 := hR_56.at0 ra 67 (by decide)
          unfold fModel_numeral_69
          refine y_Model_isGood hok hw ra hR_56 (fun r_63 u_64 u_65 u_66 => ⟨r_63, I_54, L_55, rfl, rfl, ?_⟩)
          have b_67 : 0 ≤ r_63.toInt ∧ r_63.toInt ≤ 1 := u_64.rg
          refine ⟨fun c_68 => ?_, fun c_68 => ?_⟩
          · have d_69 := iEq c_68
            exact (hp _ _ _ hR_56 hf_58 (by first | omega | (intro h; omega) | exact Or.inl rfl | exact Or.inr rfl) (by first | omega | (intro h; omega) | exact Or.inl rfl | exact Or.inr rfl) (by first | assumption | (intro h; have q := hq1 (by omega); omega)) (by first | assumption | (intro h; omega) | (intro h; simp only [Im] at *; omega)) (by first | omega | (intro h; omega) | exact Or.inl rfl | exact Or.inr rfl) (by first | omega | (intro h; omega) | exact Or.inl rfl | exact Or.inr rfl) (by first | omega | (intro h; omega) | exact Or.inl rfl | exact Or.inr rfl) (by first | omega | (intro h; omega) | exact Or.inl rfl | exact Or.inr rfl) (by first | omega | (intro h; omega) | exact Or.inl rfl | exact Or.inr rfl) (by first | omega | (intro h; omega) | exact Or.inl rfl | exact Or.inr rfl) (by first | omega | (intro h; omega) | exact Or.inl rfl | exact Or.inr rfl) (by first | omega | (intro h; omega) | exact Or.inl rfl | exact Or.inr rfl) (by first | omega | (intro h; omega) | exact Or.inl rfl | exact Or.inr rfl))
          · have d_70 := iNe c_68
            exact (hp _ _ _ hR_56 hf_58 (by first | omega | (intro h; omega) | exact Or.inl rfl | exact Or.inr rfl) (by first | omega | (intro h; omega) | exact Or.inl rfl | exact Or.inr rfl) (by first | assumption | (intro h; have q := hq1 (by omega); omega)) (by first | assumption | (intro h; omega) | (intro h; simp only [Im] at *; omega)) (by first | omega | (intro h; omega) | exact Or.inl rfl | exact Or.inr rfl) (by first | omega | (intro h; omega) | exact Or.inl rfl | exact Or.inr rfl) (by first | omega | (intro h; omega) | exact Or.inl rfl | exact Or.inr rfl) (by first | omega | (intro h; omega) | exact Or.inl rfl | exact Or.inr rfl) (by first | omega | (intro h; omega) | exact Or.inl rfl | exact Or.inr rfl) (by first | omega | (intro h; omega) | exact Or.inl rfl | exact Or.inr rfl) (by first | omega | (intro h; omega) | exact Or.inl rfl | exact Or.inr rfl) (by first | omega | (intro h; omega) | exact Or.inl rfl | exact Or.inr rfl) (by first | omega | (intro h; omega) | exact Or.inl rfl | exact Or.inr rfl))
      · have d_71 := iNe c_21
        refine ⟨fun c_72 => ?_, fun c_72 => ?_⟩
        · have d_73 := iLt c_72
          unfold fModel_numeral_44
          have g_74 : (0 : Int) ≤ (I0 o 6).toInt ∧ (I0 o 6).toInt ≤ 1600 := hR.at0 ra 6 (by decide)
          refine y_Model_fails hok hw ra (by first | omega | (intro h; omega) | exact Or.inl rfl | exact Or.inr rfl) hR (fun I_92 L_93 hR_94 fr_95 u_76 u_77 u_78 u_79 u_80 u_81 u_82 u_83 u_84 u_85 u_86 u_87 u_88 u_89 u_90 u_91 => ⟨I_92, L_93, rfl, rfl, ?_⟩)
          have hf_96 : Fm (fun c => c = o) I0 I_92 := hf.call fr_95 (fun c hc => by first | exact hc | (dsimp only at hc ⊢; omega) | omega)
          have g_97 : (0 : Int) ≤ (I_92 o 7).toInt ∧ (I_92 o 7).toInt ≤ 1601 := hR_94.at0 ra 7 (by decide)
          have g_98 : (0 : Int) ≤ (I_92 o 3).toInt ∧ (I_92 o 3).toInt ≤ 1600 := hR_94.at0 ra 3 (by decide)
          have g_99 : (0 : Int) ≤ (I_92 o 35).toInt ∧ (I_92 o 35).toInt ≤ 1 := hR_94.at0 ra 35 (by decide)
          have g_100 : (0 : Int) ≤ (I_92 o 67).toInt ∧ (I_92 o 67).toInt ≤ 40 := hR_94.at0 ra 67 (by decide)
          have g_101 : (0 : Int) ≤ (I_92 o 6).toInt ∧ (I_92 o 6).toInt ≤ 1600 := hR_94.at0 ra 6 (by decide)
          unfold fModel_numeral_53
          refine y_Model_isGood hok hw ra hR_94 (fun r_102 u_103 u_104 u_105 => ⟨r_102, I_92, L_93, rfl, rfl, ?_⟩)
          have b_106 : 0 ≤ r_102.toInt ∧ r_102.toInt ≤ 1 := u_103.rg
          refine ⟨fun c_107 => ?_, fun c_107 => ?_⟩
          · have d_108 := iEq c_107
            unfold fModel_numeral_69
            refine y_Model_isGood hok hw ra hR_94 (fun r_109 u_110 u_111 u_112 => ⟨r_109, I_92, L_93, rfl, rfl, ?_⟩)
            have b_113 : 0 ≤ r_109.toInt ∧ r_109.toInt ≤ 1 := u_110.rg
            refine ⟨fun c_114 => ?_, fun c_114 => ?_⟩
            · have d_115 := iEq c_114
              exact (hp _ _ _ hR_94 hf_96 (by first | omega | (intro h; omega) | exact Or.inl rfl | exact Or.inr rfl) (by first | omega | (intro h; omega) | exact Or.inl rfl | exact Or.inr rfl) (by first | assumption | (intro h; have q := hq1 (by omega); omega)) (by first | assumption | (intro h; omega) | (intro h; simp only [Im] at *; omega)) (by first | omega | (intro h; omega) | exact Or.inl rfl | exact Or.inr rfl) (by first | omega | (intro h; omega) | exact Or.inl rfl | exact Or.inr rfl) (by first | omega | (intro h; omega) | exact Or.inl rfl | exact Or.inr rfl) (by first | omega | (intro h; omega) | exact Or.inl rfl | exact Or.inr rfl) (by first | omega | (intro h; omega) | exact Or.inl rfl | exact Or.inr rfl) (by first | omega | (intro h; omega) | exact Or.inl rfl | exact Or.inr rfl) (by first | omega | (intro h; omega) | exact Or.inl rfl | exact Or.inr rfl) (by first | omega | (intro h; omega) | exact Or.inl rfl | exact Or.inr rfl) (by first | omega | (intro h; omega) | exact Or.inl rfl | exact Or.inr rfl))
            · have d_116 := iNe c_114
              exact (hp _ _ _ hR_94 hf_96 (by first | omega | (intro h; omega) | exact Or.inl rfl | exact Or.inr rfl) (by first | omega | (intro h; omega) | exact Or.inl rfl | exact Or.inr rfl) (by first | assumption | (intro h; have q := hq1 (by omega); omega)) (by first | assumption | (intro h; omega) | (intro h; simp only [Im] at *; omega)) (by first | omega | (intro h; omega) | exact Or.inl rfl | exact Or.inr rfl) (by first | omega | (intro h; omega) | exact Or.inl rfl | exact Or.inr rfl) (by first | omega | (intro h; omega) | exact Or.inl rfl | exact Or.inr rfl) (by first | omega | (intro h; omega) | exact Or.inl rfl | exact Or.inr rfl) (by first | omega | (intro h; omega) | exact Or.inl rfl | exact Or.inr rfl) (by first | omega | (intro h; omega) | exact Or.inl rfl | exact Or.inr rfl) (by first | omega | (intro h; omega) | exact Or.inl rfl | exact Or.inr rfl) (by first | omega | (intro h; omega) | exact Or.inl rfl | exact Or.inr rfl) (by first | omega | (intro h; omega) | exact Or.inl rfl | exact Or.inr rfl))
          · have d_117 := iNe c_107
            refine y_Model_next hok hw ra (by first | omega | (intro h; omega) | exact Or.inl rfl | exact Or.inr rfl) hR_94 (fun I_133 L_134 hR_135 fr_136 u_119 u_120 u_121 u_122 u_123 u_124 u_125 u_126 u_127 u_128 u_129 u_130 u_131 u_132 => ⟨I_133, L_134, rfl, rfl, ?_⟩)
            have hf_137 : Fm (fun c => c = o) I0 I_133 := hf_96.call fr_136 (fun c hc => by first | exact hc | (dsimp only at hc ⊢; omega) | omega)
            have g_138 : (0 : Int) ≤ (I_133 o 7).toInt ∧ (I_133 o 7).toInt ≤ 1601 := hR_135.at0 ra 7 (by decide)
            have g_139 : (0 : Int) ≤ (I_133 o 3).toInt ∧ (I_133 o 3).toInt ≤ 1600 := hR_135.at0 ra 3 (by decide)
            have g_140 : (0 : Int) ≤ (I_133 o 35).toInt ∧ (I_133 o 35).toInt ≤ 1 := hR_135.at0 ra 35 (by decide)
            have g_141 : (0 : Int) ≤ (I_133 o 67).toInt ∧ (I_133 o 67).toInt ≤ 40 := hR_135.at0 ra 67 (by decide)
            have g_142 : (0 : Int) ≤ (I_133 o 6).toInt ∧ (I_133 o 6).toInt ≤ 1600 := hR_135.at0 ra 6 (by decide)
            unfold fModel_numeral_69
            refine y_Model_isGood hok hw ra hR_135 (fun r_143 u_144 u_145 u_146 => ⟨r_143, I_133, L_134, rfl, rfl, ?_⟩)
            have b_147 : 0 ≤ r_143.toInt ∧ r_143.toInt ≤ 1 := u_144.rg
            refine ⟨fun c_148 => ?_, fun c_148 => ?_⟩
            · have d_149 := iEq c_148
              exact (hp _ _ _ hR_135 hf_137 (by first | omega | (intro h; omega) | exact Or.inl rfl | exact Or.inr rfl) (by first | omega | (intro h; omega) | exact Or.inl rfl | exact Or.inr rfl) (by first | assumption | (intro h; have q := hq1 (by omega); omega)) (by first | assumption | (intro h; omega) | (intro h; simp only [Im] at *; omega)) (by first | omega | (intro h; omega) | exact Or.inl rfl | exact Or.inr rfl) (by first | omega | (intro h; omega) | exact Or.inl rfl | exact Or.inr rfl) (by first | omega | (intro h; omega) | exact Or.inl rfl | exact Or.inr rfl) (by first | omega | (intro h; omega) | exact Or.inl rfl | exact Or.inr rfl) (by first | omega | (intro h; omega) | exact Or.inl rfl | exact Or.inr rfl) (by first | omega | (intro h; omega) | exact Or.inl rfl | exact Or.inr rfl) (by first | omega | (intro h; omega) | exact Or.inl rfl | exact Or.inr rfl) (by first | omega | (intro h; omega) | exact Or.inl rfl | exact Or.inr rfl) (by first | omega | (intro h; omega) | exact Or.inl rfl | exact Or.inr rfl))
            · have d_150 := iNe c_148
              exact (hp _ _ _ hR_135 hf_137 (by first | omega | (intro h; omega) | exact Or.inl rfl | exact Or.inr rfl) (by first | omega | (intro h; omega) | exact Or.inl rfl | exact Or.inr rfl) (by first | assumption | (intro h; have q := hq1 (by omega); omega)) (by first | assumption | (intro h; omega) | (intro h; simp only [Im] at *; omega)) (by first | omega | (intro h; omega) | exact Or.inl rfl | exact Or.inr rfl) (by first | omega | (intro h; omega) | exact Or.inl rfl | exact Or.inr rfl) (by first | omega | (intro h; omega) | exact Or.inl rfl | exact Or.inr rfl) (by first | omega | (intro h; omega) | exact Or.inl rfl | exact Or.inr rfl) (by first | omega | (intro h; omega) | exact Or.inl rfl | exact Or.inr rfl) (by first | omega | (intro h; omega) | exact Or.inl rfl | exact Or.inr rfl) (by first | omega | (intro h; omega) | exact Or.inl rfl | exact Or.inr rfl) (by first | omega | (intro h; omega) | exact Or.inl rfl | exact Or.inr rfl) (by first | omega | (intro h; omega) | exact Or.inl rfl | exact Or.inr rfl))
        · have d_151 := iNlt c_72
          refine ⟨fun c_152 => ?_, fun c_152 => ?_⟩
          · have d_153 := iLe c_152
            unfold fModel_numeral_53
            refine y_Model_isGood hok hw ra hR (fun r_154 u_155 u_156 u_157 => ⟨r_154, I0, L0, rfl, rfl, ?_⟩)
            have b_158 : 0 ≤ r_154.toInt ∧ r_154.toInt ≤ 1 := u_155.rg
            refine ⟨fun c_159 => ?_, fun c_159 => ?_⟩
            · have d_160 := iEq c_159
              unfold fModel_numeral_69
              refine y_Model_isGood hok hw ra hR (fun r_161 u_162 u_163 u_164 => ⟨r_161, I0, L0, rfl, rfl, ?_⟩)
              have b_165 : 0 ≤ r_161.toInt ∧ r_161.toInt ≤ 1 := u_162.rg
              refine ⟨fun c_166 => ?_, fun c_166 => ?_⟩
              · have d_167 := iEq c_166
                exact (hp _ _ _ hR hf (by first | omega | (intro h; omega) | exact Or.inl rfl | exact Or.inr rfl) (by first | omega | (intro h; omega) | exact Or.inl rfl | exact Or.inr rfl) (by first | assumption | (intro h; have q := hq1 (by omega); omega)) (by first | assumption | (intro h; omega) | (intro h; simp only [Im] at *; omega)) (by first | omega | (intro h; omega) | exact Or.inl rfl | exact Or.inr rfl) (by first | omega | (intro h; omega) | exact Or.inl rfl | exact Or.inr rfl) (by first | omega | (intro h; omega) | exact Or.inl rfl | exact Or.inr rfl) (by first | omega | (intro h; omega) | exact Or.inl rfl | exact Or.inr rfl) (by first | omega | (intro h; omega) | exact Or.inl rfl | exact Or.inr rfl) (by first | omega | (intro h; omega) | exact Or.inl rfl | exact Or.inr rfl) (by first | omega | (intro h; omega) | exact Or.inl rfl | exact Or.inr rfl) (by first | omega | (intro h; omega) | exact Or.inl rfl | exact Or.inr rfl) (by first | omega | (intro h; omega) | exact Or.inl rfl | exact Or.inr rfl))
              · have d_168 := iNe c_166
                exact (hp _ _ _ hR hf (by first | omega | (intro h; omega) | exact Or.inl rfl | exact Or.inr rfl) (by first | omega | (intro h; omega) | exact Or.inl rfl | exact Or.inr rfl) (by first | assumption | (intro h; have q := hq1 (by omega); omega)) (by first | assumption | (intro h; omega) | (intro h; simp only [Im] at *; omega)) (by first | omega | (intro h; omega) | exact Or.inl rfl | exact Or.inr rfl) (by first | omega | (intro h; omega) | exact Or.inl rfl | exact Or.inr rfl) (by first | omega | (intro h; omega) | exact Or.inl rfl | exact Or.inr rfl) (by first | omega | (intro h; omega) | exact Or.inl rfl | exact Or.inr rfl) (by first | omega | (intro h; omega) | exact Or.inl rfl | exact Or.inr rfl) (by first | omega | (intro h; omega) | exact Or.inl rfl | exact Or.inr rfl) (by first | omega | (intro h; omega) | exact Or.inl rfl | exact Or.inr rfl) (by first | omega | (intro h; omega) | exact Or.inl rfl | exact Or.inr rfl) (by first | omega | (intro h; omega) | exact Or.inl rfl | exact Or.inr rfl))
            · have d_169 := iNe c_159
              refine y_Model_next hok hw ra (by first | omega | (intro h; omega) | exact Or.inl rfl | exact Or.inr rfl) hR (fun I_185 L_186 hR_187 fr_188 u_171 u_172 u_173 u_174 u_175 u_176 u_177 u_178 u_179 u_180 u_181 u_182 u_183 u_184 => ⟨I_185, L_186, rfl, rfl, ?_⟩)
              have hf_189 : Fm (fun c => c = o) I0 I_185 := hf.call fr_188 (fun c hc => by first | exact hc | (dsimp only at hc ⊢; omega) | omega)
              have g_190 : (0 : Int) ≤ (I_185 o 7).toInt ∧ (I_185 o 7).toInt ≤ 1601 := hR_187.at0 ra 7 (by decide)
              have g_191 : (0 : Int) ≤ (I_185 o 3).toInt ∧ (I_185 o 3).toInt ≤ 1600 := hR_187.at0 ra 3 (by decide)
              have g_192 : (0 : Int) ≤ (I_185 o 35).toInt ∧ (I_185 o 35).toInt ≤ 1 := hR_187.at0 ra 35 (by decide)
              have g_193 : (0 : Int) ≤ (I_185 o 67).toInt ∧ (I_185 o 67).toInt ≤ 40 := hR_187.at0 ra 67 (by decide)
              unfold fModel_numeral_69
              refine y_Model_isGood hok hw ra hR_187 (fun r_194 u_195 u_196 u_197 => ⟨r_194, I_185, L_186, rfl, rfl, ?_⟩)
              have b_198 : 0 ≤ r_194.toInt ∧ r_194.toInt ≤ 1 := u_195.rg
              refine ⟨fun c_199 => ?_, fun c_199 => ?_⟩
              · have d_200 := iEq c_199
                exact (hp _ _ _ hR_187 hf_189 (by first | omega | (intro h; omega) | exact Or.inl rfl | exact Or.inr rfl) (by first | omega | (intro h; omega) | exact Or.inl rfl | exact Or.inr rfl) (by first | assumption | (intro h; have q := hq1 (by omega); omega)) (by first | assumption | (intro h; omega) | (intro h; simp only [Im] at *; omega)) (by first | omega | (intro h; omega) | exact Or.inl rfl | exact Or.inr rfl) (by first | omega | (intro h; omega) | exact Or.inl rfl | exact Or.inr rfl) (by first | omega | (intro h; omega) | exact Or.inl rfl | exact Or.inr rfl) (by first | omega | (intro h; omega) | exact Or.inl rfl | exact Or.inr rfl) (by first | omega | (intro h; omega) | exact Or.inl rfl | exact Or.inr rfl) (by first | omega | (intro h; omega) | exact Or.inl rfl | exact Or.inr rfl) (by first | omega | (intro h; omega) | exact Or.inl rfl | exact Or.inr rfl) (by first | omega | (intro h; omega) | exact Or.inl rfl | exact Or.inr rfl) (by first | omega | (intro h; omega) | exact Or.inl rfl | exact Or.inr rfl))
              · have d_201 := iNe c_199
                exact (hp _ _ _ hR_187 hf_189 (by first | omega | (intro h; omega) | exact Or.inl rfl | exact Or.inr rfl) (by first | omega | (intro h; omega) | exact Or.inl rfl | exact Or.inr rfl) (by first | assumption | (intro h; have q := hq1 (by omega); omega)) (by first | assumption | (intro h; omega) | (intro h; simp only [Im] at *; omega)) (by first | omega | (intro h; omega) | exact Or.inl rfl | exact Or.inr rfl) (by first | omega | (intro h; omega) | exact Or.inl rfl | exact Or.inr rfl) (by first | omega | (intro h; omega) | exact Or.inl rfl | exact Or.inr rfl) (by first | omega | (intro h; omega) | exact Or.inl rfl | exact Or.inr rfl) (by first | omega | (intro h; omega) | exact Or.inl rfl | exact Or.inr rfl) (by first | omega | (intro h; omega) | exact Or.inl rfl | exact Or.inr rfl) (by first | omega | (intro h; omega) | exact Or.inl rfl | exact Or.inr rfl) (by first | omega | (intro h; omega) | exact Or.inl rfl | exact Or.inr rfl) (by first | omega | (intro h; omega) | exact Or.inl rfl | exact Or.inr rfl))
          · have d_202 := iNle c_152
            unfold fModel_numeral_44
            have g_203 : (0 : Int) ≤ (I0 o 6).toInt ∧ (I0 o 6).toInt ≤ 1600 := hR.at0 ra 6 (by decide)
            refine y_Model_fails hok hw ra (by first | omega | (intro h; omega) | exact Or.inl rfl | exact Or.inr rfl) hR (fun I_221 L_222 hR_223 fr_224 u_205 u_206 u_207 u_208 u_209 u_210 u_211 u_212 u_213 u_214 u_215 u_216 u_217 u_218 u_219 u_220 => ⟨I_221, L_222, rfl, rfl, ?_⟩)
            have hf_225 : Fm (fun c => c = o) I0 I_221 := hf.call fr_224 (fun c hc => by first | exact hc | (dsimp only at hc ⊢; omega) | omega)
            have g_226 : (0 : Int) ≤ (I_221 o 7).toInt ∧ (I_221 o 7).toInt ≤ 1601 := hR_223.at0 ra 7 (by decide)
            have g_227 : (0 : Int) ≤ (I_221 o 3).toInt ∧ (I_221 o 3).toInt ≤ 1600 := hR_223.at0 ra 3 (by decide)
            have g_228 : (0 : Int) ≤ (I_221 o 35).toInt ∧ (I_221 o 35).toInt ≤ 1 := hR_223.at0 ra 35 (by decide)
            have g_229 : (0 : Int) ≤ (I_221 o 67).toInt ∧ (I_221 o 67).toInt ≤ 40 := hR_223.at0 ra 67 (by decide)
            have g_230 : (0 : Int) ≤ (I_221 o 6).toInt ∧ (I_221 o 6).toInt ≤ 1600 := hR_223.at0 ra 6 (by decide)
            unfold fModel_numeral_53
            refine y_Model_isGood hok hw ra hR_223 (fun r_231 u_232 u_233 u_234 => ⟨r_231, I_221, L_222, rfl, rfl, ?_⟩)
            have b_235 : 0 ≤ r_231.toInt ∧ r_231.toInt ≤ 1 := u_232.rg
            refine ⟨fun c_236 => ?_, fun c_236 => ?_⟩
            · have d_237 := iEq c_236
              unfold fModel_numeral_69
              refine y_Model_isGood hok hw ra hR_223 (fun r_238 u_239 u_240 u_241 => ⟨r_238, I_221, L_222, rfl, rfl, ?_⟩)
              have b_242 : 0 ≤ r_238.toInt ∧ r_238.toInt ≤ 1 := u_239.rg
              refine ⟨fun c_243 => ?_, fun c_243 => ?_⟩
              · have d_244 := iEq c_243
                exact (hp _ _ _ hR_223 hf_225 (by first | omega | (intro h; omega) | exact Or.inl rfl | exact Or.inr rfl) (by first | omega | (intro h; omega) | exact Or.inl rfl | exact Or.inr rfl) (by first | assumption | (intro h; have q := hq1 (by omega); omega)) (by first | assumption | (intro h; omega) | (intro h; simp only [Im] at *; omega)) (by first | omega | (intro h; omega) | exact Or.inl rfl | exact Or.inr rfl) (by first | omega | (intro h; omega) | exact Or.inl rfl | exact Or.inr rfl) (by first | omega | (intro h; omega) | exact Or.inl rfl | exact Or.inr rfl) (by first | omega | (intro h; omega) | exact Or.inl rfl | exact Or.inr rfl) (by first | omega | (intro h; omega) | exact Or.inl rfl | exact Or.inr rfl) (by first | omega | (intro h; omega) | exact Or.inl rfl | exact Or.inr rfl) (by first | omega | (intro h; omega) | exact Or.inl rfl | exact Or.inr rfl) (by first | omega | (intro h; omega) | exact Or.inl rfl | exact Or.inr rfl) (by first | omega | (intro h; omega) | exact Or.inl rfl | exact Or.inr rfl))
              · have d_245 := iNe c_243
                exact (hp _ _ _ hR_223 hf_225 (by first | omega | (intro h; omega) | exact Or.inl rfl | exact Or.inr rfl) (by first | omega | (intro h; omega) | exact Or.inl rfl | exact Or.inr rfl) (by first | assumption | (intro h; have q := hq1 (by omega); omega)) (by first | assumption | (intro h; omega) | (intro h; simp only [Im] at *; omega)) (by first | omega | (intro h; omega) | exact Or.inl rfl | exact Or.inr rfl) (by first | omega | (intro h; omega) | exact Or.inl rfl | exact Or.inr rfl) (by first | omega | (intro h; omega) | exact Or.inl rfl | exact Or.inr rfl) (by first | omega | (intro h; omega) | exact Or.inl rfl | exact Or.inr rfl) (by first | omega | (intro h; omega) | exact Or.inl rfl | exact Or.inr rfl) (by first | omega | (intro h; omega) | exact Or.inl rfl | exact Or.inr rfl) (by first | omega | (intro h; omega) | exact Or.inl rfl | exact Or.inr rfl) (by first | omega | (intro h; omega) | exact Or.inl rfl | exact Or.inr rfl) (by first | omega | (intro h; omega) | exact Or.inl rfl | exact Or.inr rfl))
            · have d_246 := iNe c_236
              refine y_Model_next hok hw ra (by first | omega | (intro h; omega) | exact Or.inl rfl | exact Or.inr rfl) hR_223 (fun I_262 L_263 hR_264 fr_265 u_248 u_249 u_250 u_251 u_252 u_253 u_254 u_255 u_256 u_257 u_258 u_259 u_260 u_261 => ⟨I_262, L_263, rfl, rfl, ?_⟩)
              have hf_266 : Fm (fun c => c = o) I0 I_262 := hf_225.call fr_265 (fun c hc => by first | exact hc | (dsimp only at hc ⊢; omega) | omega)
              have g_267 : (0 : Int) ≤ (I_262 o 7).toInt ∧ (I_262 o 7).toInt ≤ 1601 := hR_264.at0 ra 7 (by decide)
              have g_268 : (0 : Int) ≤ (I_262 o 3).toInt ∧ (I_262 o 3).toInt ≤ 1600 := hR_264.at0 ra 3 (by decide)
              have g_269 : (0 : Int) ≤ (I_262 o 35).toInt ∧ (I_262 o 35).toInt ≤ 1 := hR_264.at0 ra 35 (by decide)
              have g_270 : (0 : Int) ≤ (I_262 o 67).toInt ∧ (I_262 o 67).toInt ≤ 40 := hR_264.at0 ra 67 (by decide)
              have g_271 : (0 : Int) ≤ (I_262 o 6).toInt ∧ (I_262 o 6).toInt ≤ 1600 := hR_264.at0 ra 6 (by decide)
              unfold fModel_numeral_69
              refine y_Model_isGood hok hw ra hR_264 (fun r_272 u_273 u_274 u_275 => ⟨r_272, I_262, L_263, rfl, rfl, ?_⟩)
              have b_276 : 0 ≤ r_272.toInt ∧ r_272.toInt ≤ 1 := u_273.rg
              refine ⟨fun c_277 => ?_, fun c_277 => ?_⟩
              · have d_278 := iEq c_277
                exact (hp _ _ _ hR_264 hf_266 (by first | omega | (intro h; omega) | exact Or.inl rfl | exact Or.inr rfl) (by first | omega | (intro h; omega) | exact Or.inl rfl | exact Or.inr rfl) (by first | assumption | (intro h; have q := hq1 (by omega); omega)) (by first | assumption | (intro h; omega) | (intro h; simp only [Im] at *; omega)) (by first | omega | (intro h; omega) | exact Or.inl rfl | exact Or.inr rfl) (by first | omega | (intro h; omega) | exact Or.inl rfl | exact Or.inr rfl) (by first | omega | (intro h; omega) | exact Or.inl rfl | exact Or.inr rfl) (by first | omega | (intro h; omega) | exact Or.inl rfl | exact Or.inr rfl) (by first | omega | (intro h; omega) | exact Or.inl rfl | exact Or.inr rfl) (by first | omega | (intro h; omega) | exact Or.inl rfl | exact Or.inr rfl) (by first | omega | (intro h; omega) | exact Or.inl rfl | exact Or.inr rfl) (by first | omega | (intro h; omega) | exact Or.inl rfl | exact Or.inr rfl) (by first | omega | (intro h; omega) | exact Or.inl rfl | exact Or.inr rfl))
              · have d_279 := iNe c_277
                exact (hp _ _ _ hR_264 hf_266 (by first | omega | (intro h; omega) | exact Or.inl rfl | exact Or.inr rfl) (by first | omega | (intro h; omega) | exact Or.inl rfl | exact Or.inr rfl) (by first | assumption | (intro h; have q := hq1 (by omega); omega)) (by first | assumption | (intro h; omega) | (intro h; simp only [Im] at *; omega)) (by first | omega | (intro h; omega) | exact Or.inl rfl | exact Or.inr rfl) (by first | omega | (intro h; omega) | exact Or.inl rfl | exact Or.inr rfl) (by first | omega | (intro h; omega) | exact Or.inl rfl | exact Or.inr rfl) (by first | omega | (intro h; omega) | exact Or.inl rfl | exact Or.inr rfl) (by first | omega | (intro h; omega) | exact Or.inl rfl | exact Or.inr rfl) (by first | omega | (intro h; omega) | exact Or.inl rfl | exact Or.inr rfl) (by first | omega | (intro h; omega) | exact Or.inl rfl | exact Or.inr rfl) (by first | omega | (intro h; omega) | exact Or.inl rfl | exact Or.inr rfl) (by first | omega | (intro h; omega) | exact Or.inl rfl | exact Or.inr rfl))
    · have d_280 := iNe c_14
      refine y_Model_wrong hok hw ra hR (fun I_297 L_298 hR_299 fr_300 u_282 u_283 u_284 u_285 u_286 u_287 u_288 u_289 u_290 u_291 u_292 u_293 u_294 u_295 u_296 => ⟨I_297, L_298, rfl, rfl, ?_⟩)
      have hf_301 : Fm (fun c => c = o) I0 I_297 := hf.call fr_300 (fun c hc => by first | exact hc | (dsimp only at hc ⊢; omega) | omega)
      have g_302 : (0 : Int) ≤ (I_297 o 7).toInt ∧ (I_297 o 7).toInt ≤ 1601 := hR_299.at0 ra 7 (by decide)
      have g_303 : (0 : Int) ≤ (I_297 o 3).toInt ∧ (I_297 o 3).toInt ≤ 1600 := hR_299.at0 ra 3 (by decide)
      have g_304 : (0 : Int) ≤ (I_297 o 35).toInt ∧ (I_297 o 35).toInt ≤ 1 := hR_299.at0 ra 35 (by decide)
      have g_305 : (0 : Int) ≤ (I_297 o 67).toInt ∧ (I_297 o 67).toInt ≤ 40 := hR_299.at0 ra 67 (by decide)
      unfold fModel_numeral_21
      refine y_Model_isGood hok hw ra hR_299 (fun r_306 u_307 u_308 u_309 => ⟨r_306, I_297, L_298, rfl, rfl, ?_⟩)
      have b_310 : 0 ≤ r_306.toInt ∧ r_306.toInt ≤ 1 := u_307.rg
      refine ⟨fun c_311 => ?_, fun c_311 => ?_⟩
      · have d_312 := iEq c_311
        unfold fModel_numeral_53
        refine y_Model_isGood hok hw ra hR_299 (fun r_313 u_314 u_315 u_316 => ⟨r_313, I_297, L_298, rfl, rfl, ?_⟩)
        have b_317 : 0 ≤ r_313.toInt ∧ r_313.toInt ≤ 1 := u_314.rg
        refine ⟨fun c_318 => ?_, fun c_318 => ?_⟩
        · have d_319 := iEq c_318
          unfold fModel_numeral_69
          refine y_Model_isGood hok hw ra hR_299 (fun r_320 u_321 u_322 u_323 => ⟨r_320, I_297, L_298, rfl, rfl, ?_⟩)
          have b_324 : 0 ≤ r_320.toInt ∧ r_320.toInt ≤ 1 := u_321.rg
          refine ⟨fun c_325 => ?_, fun c_325 => ?_⟩
          · have d_326 := iEq c_325
            exact (hp _ _ _ hR_299 hf_301 (by first | omega | (intro h; omega) | exact Or.inl rfl | exact Or.inr rfl) (by first | omega | (intro h; omega) | exact Or.inl rfl | exact Or.inr rfl) (by first | assumption | (intro h; have q := hq1 (by omega); omega)) (by first | assumption | (intro h; omega) | (intro h; simp only [Im] at *; omega)) (by first | omega | (intro h; omega) | exact Or.inl rfl | exact Or.inr rfl) (by first | omega | (intro h; omega) | exact Or.inl rfl | exact Or.inr rfl) (by first | omega | (intro h; omega) | exact Or.inl rfl | exact Or.inr rfl) (by first | omega | (intro h; omega) | exact Or.inl rfl | exact Or.inr rfl) (by first | omega | (intro h; omega) | exact Or.inl rfl | exact Or.inr rfl) (by first | omega | (intro h; omega) | exact Or.inl rfl | exact Or.inr rfl) (by first | omega | (intro h; omega) | exact Or.inl rfl | exact Or.inr rfl) (by first | omega | (intro h; omega) | exact Or.inl rfl | exact Or.inr rfl) (by first | omega | (intro h; omega) | exact Or.inl rfl | exact Or.inr rfl))
          · have d_327 := iNe c_325
            exact (hp _ _ _ hR_299 hf_301 (by first | omega | (intro h; omega) | exact Or.inl rfl | exact Or.inr rfl) (by first | omega | (intro h; omega) | exact Or.inl rfl | exact Or.inr rfl) (by first | assumption | (intro h; have q := hq1 (by omega); omega)) (by first | assumption | (intro h; omega) | (intro h; simp only [Im] at *; omega)) (by first | omega | (intro h; omega) | exact Or.inl rfl | exact Or.inr rfl) (by first | omega | (intro h; omega) | exact Or.inl rfl | exact Or.inr rfl) (by first | omega | (intro h; omega) | exact Or.inl rfl | exact Or.inr rfl) (by first | omega | (intro h; omega) | exact Or.inl rfl | exact Or.inr rfl) (by first | omega | (intro h; omega) | exact Or.inl rfl | exact Or.inr rfl) (by first | omega | (intro h; omega) | exact Or.inl rfl | exact Or.inr rfl) (by first | omega | (intro h; omega) | exact Or.inl rfl | exact Or.inr rfl) (by first | omega | (intro h; omega) | exact Or.inl rfl | exact Or.inr rfl) (by first | omega | (intro h; omega) | exact Or.inl rfl | exact Or.inr rfl))
        · have d_328 := iNe c_318
          refine y_Model_next hok hw ra (by first | omega | (intro h; omega) | exact Or.inl rfl | exact Or.inr rfl) hR_299 (fun I_344 L_345 hR_346 fr_347 u_330 u_331 u_332 u_333 u_334 u_335 u_336 u_337 u_338 u_339 u_340 u_341 u_342 u_343 => ⟨I_344, L_345, rfl, rfl, ?_⟩)
          have hf_348 : Fm (fun c => c = o) I0 I_344 := hf_301.call fr_347 (fun c hc => by first | exact hc | (dsimp only at hc ⊢; omega) | omega)
          have g_349 : (0 : Int) ≤ (I_344 o 7).toInt ∧ (I_344 o 7).toInt ≤ 1601 := hR_346.at0 ra 7 (by decide)
          have g_350 : (0 : Int) ≤ (I_344 o 3).toInt ∧ (I_344 o 3).toInt ≤ 1600 := hR_346.at0 ra 3 (by decide)
          have g_351 : (0 : Int) ≤ (I_344 o 35).toInt ∧ (I_344 o 35).toInt ≤ 1 := hR_346.at0 ra 35 (by decide)
          have g_352 : (0 : Int) ≤ (I_344 o 67).toInt ∧ (I_344 o 67).toInt ≤ 40 := hR_346.at0 ra 67 (by decide)
          unfold fModel_numeral_69
          refine y_Model_isGood hok hw ra hR_346 (fun r_353 u_354 u_355 u_356 => ⟨r_353, I_344, L_345, rfl, rfl, ?_⟩)
          have b_357 : 0 ≤ r_353.toInt ∧ r_353.toInt ≤ 1 := u_354.rg
          refine ⟨fun c_358 => ?_, fun c_358 => ?_⟩
          · have d_359 := iEq c_358
            exact (hp _ _ _ hR_346 hf_348 (by first | omega | (intro h; omega) | exact Or.inl rfl | exact Or.inr rfl) (by first | omega | (intro h; omega) | exact Or.inl rfl | exact Or.inr rfl) (by first | assumption | (intro h; have q := hq1 (by omega); omega)) (by first | assumption | (intro h; omega) | (intro h; simp only [Im] at *; omega)) (by first | omega | (intro h; omega) | exact Or.inl rfl | exact Or.inr rfl) (by first | omega | (intro h; omega) | exact Or.inl rfl | exact Or.inr rfl) (by first | omega | (intro h; omega) | exact Or.inl rfl | exact Or.inr rfl) (by first | omega | (intro h; omega) | exact Or.inl rfl | exact Or.inr rfl) (by first | omega | (intro h; omega) | exact Or.inl rfl | exact Or.inr rfl) (by first | omega | (intro h; omega) | exact Or.inl rfl | exact Or.inr rfl) (by first | omega | (intro h; omega) | exact Or.inl rfl | exact Or.inr rfl) (by first | omega | (intro h; omega) | exact Or.inl rfl | exact Or.inr rfl) (by first | omega | (intro h; omega) | exact Or.inl rfl | exact Or.inr rfl))
          · have d_360 := iNe c_358
            exact (hp _ _ _ hR_346 hf_348 (by first | omega | (intro h; omega) | exact Or.inl rfl | exact Or.inr rfl) (by first | omega | (intro h; omega) | exact Or.inl rfl | exact Or.inr rfl) (by first | assumption | (intro h; have q := hq1 (by omega); omega)) (by first | assumption | (intro h; omega) | (intro h; simp only [Im] at *; omega)) (by first | omega | (intro h; omega) | exact Or.inl rfl | exact Or.inr rfl) (by first | omega | (intro h; omega) | exact Or.inl rfl | exact Or.inr rfl) (by first | omega | (intro h; omega) | exact Or.inl rfl | exact Or.inr rfl) (by first | omega | (intro h; omega) | exact Or.inl rfl | exact Or.inr rfl) (by first | omega | (intro h; omega) | exact Or.inl rfl | exact Or.inr rfl) (by first | omega | (intro h; omega) | exact Or.inl rfl | exact Or.inr rfl) (by first | omega | (intro h; omega) | exact Or.inl rfl | exact Or.inr rfl) (by first | omega | (intro h; omega) | exact Or.inl rfl | exact Or.inr rfl) (by first | omega | (intro h; omega) | exact Or.inl rfl | exact Or.inr rfl))
      · have d_361 := iNe c_311
        refine ⟨fun c_362 => ?_, fun c_362 => ?_⟩
        · have d_363 := iLt c_362
          unfold fModel_numeral_44
          have g_364 : (0 : Int) ≤ (I_297 o 6).toInt ∧ (I_297 o 6).toInt ≤ 1600 := hR_299.at0 ra 6 (by decide)
          refine y_Model_fails hok hw ra (by first | omega | (intro h; omega) | exact Or.inl rfl | exact Or.inr rfl) hR_299 (fun I_382 L_383 hR_384 fr_385 u_366 u_367 u_368 u_369 u_370 u_371 u_372 u_373 u_374 u_375 u_376 u_377 u_378 u_379 u_380 u_381 => ⟨I_382, L_383, rfl, rfl, ?_⟩)
          have hf_386 : Fm (fun c => c = o) I0 I_382 := hf_301.call fr_385 (fun c hc => by first | exact hc | (dsimp only at hc ⊢; omega) | omega)
          have g_387 : (0 : Int) ≤ (I_382 o 7).toInt ∧ (I_382 o 7).toInt ≤ 1601 := hR_384.at0 ra 7 (by decide)
          have g_388 : (0 : Int) ≤ (I_382 o 3).toInt ∧ (I_382 o 3).toInt ≤ 1600 := hR_384.at0 ra 3 (by decide)
          have g_389 : (0 : Int) ≤ (I_382 o 35).toInt ∧ (I_382 o 35).toInt ≤ 1 := hR_384.at0 ra 35 (by decide)
          have g_390 : (0 : Int) ≤ (I_382 o 67).toInt ∧ (I_382 o 67).toInt ≤ 40 := hR_384.at0 ra 67 (by decide)
          have g_391 : (0 : Int) ≤ (I_382 o 6).toInt ∧ (I_382 o 6).toInt ≤ 1600 := hR_384.at0 ra 6 (by decide)
          unfold fModel_numeral_53
          refine y_Model_isGood hok hw ra hR_384 (fun r_392 u_393 u_394 u_395 => ⟨r_392, I_382, L_383, rfl, rfl, ?_⟩)
          have b_396 : 0 ≤ r_392.toInt ∧ r_392.toInt ≤ 1 := u_393.rg
          refine ⟨fun c_397 => ?_, fun c_397 => ?_⟩
          · have d_398 := iEq c_397
            unfold fModel_numeral_69
            refine y_Model_isGood hok hw ra hR_384 (fun r_399 u_400 u_401 u_402 => ⟨r_399, I_382, L_383, rfl, rfl, ?_⟩)
            have b_403 : 0 ≤ r_399.toInt ∧ r_399.toInt ≤ 1 := u_400.rg
            refine ⟨fun c_404 => ?_, fun c_404 => ?_⟩
            · have d_405 := iEq c_404
              exact (hp _ _ _ hR_384 hf_386 (by first | omega | (intro h; omega) | exact Or.inl rfl | exact Or.inr rfl) (by first | omega | (intro h; omega) | exact Or.inl rfl | exact Or.inr rfl) (by first | assumption | (intro h; have q := hq1 (by omega); omega)) (by first | assumption | (intro h; omega) | (intro h; simp only [Im] at *; omega)) (by first | omega | (intro h; omega) | exact Or.inl rfl | exact Or.inr rfl) (by first | omega | (intro h; omega) | exact Or.inl rfl | exact Or.inr rfl) (by first | omega | (intro h; omega) | exact Or.inl rfl | exact Or.inr rfl) (by first | omega | (intro h; omega) | exact Or.inl rfl | exact Or.inr rfl) (by first | omega | (intro h; omega) | exact Or.inl rfl | exact Or.inr rfl) (by first | omega | (intro h; omega) | exact Or.inl rfl | exact Or.inr rfl) (by first | omega | (intro h; omega) | exact Or.inl rfl | exact Or.inr rfl) (by first | omega | (intro h; omega) | exact Or.inl rfl | exact Or.inr rfl) (by first | omega | (intro h; omega) | exact Or.inl rfl | exact Or.inr rfl))
            · have d_406 := iNe c_404
              exact (hp _ _ _ hR_384 hf_386 (by first | omega | (intro h; omega) | exact Or.inl rfl | exact Or.inr rfl) (by first | omega | (intro h; omega) | exact Or.inl rfl | exact Or.inr rfl) (by first | assumption | (intro h; have q := hq1 (by omega); omega)) (by first | assumption | (intro h; omega) | (intro h; simp only [Im] at *; omega)) (by first | omega | (intro h; omega) | exact Or.inl rfl | exact Or.inr rfl) (by first | omega | (intro h; omega) | exact Or.inl rfl | exact Or.inr rfl) (by first | omega | (intro h; omega) | exact Or.inl rfl | exact Or.inr rfl) (by first | omega | (intro h; omega) | exact Or.inl rfl | exact Or.inr rfl) (by first | omega | (intro h; omega) | exact Or.inl rfl | exact Or.inr rfl) (by first | omega | (intro h; omega) | exact Or.inl rfl | exact Or.inr rfl) (by first | omega | (intro h; omega) | exact Or.inl rfl | exact Or.inr rfl) (by first | omega | (intro h; omega) | exact Or.inl rfl | exact Or.inr rfl) (by first | omega | (intro h; omega) | exact Or.inl rfl | exact Or.inr rfl))
          · have d_407 := iNe c_397
            refine y_Model_next hok hw ra (by first | omega | (intro h; omega) | exact Or.inl rfl | exact Or.inr rfl) hR_384 (fun I_423 L_424 hR_425 fr_426 u_409 u_410 u_411 u_412 u_413 u_414 u_415 u_416 u_417 u_418 u_419 u_420 u_421 u_422 => ⟨I_423, L_424, rfl, rfl, ?_⟩)
            have hf_427 : Fm (fun c => c = o) I0 I_423 := hf_386.call fr_426 (fun c hc => by first | exact hc | (dsimp only at hc ⊢; omega) | omega)
            have g_428 : (0 : Int) ≤ (I_423 o 7).toInt ∧ (I_423 o 7).toInt ≤ 1601 := hR_425.at0 ra 7 (by decide)
            have g_429 : (0 : Int) ≤ (I_423 o 3).toInt ∧ (I_423 o 3).toInt ≤ 1600 := hR_425.at0 ra 3 (by decide)
            have g_430 : (0 : Int) ≤ (I_423 o 35).toInt ∧ (I_423 o 35).toInt ≤ 1 := hR_425.at0 ra 35 (by decide)
            have g_431 : (0 : Int) ≤ (I_423 o 67).toInt ∧ (I_423 o 67).toInt ≤ 40 := hR_425.at0 ra 67 (by decide)
            have g_432 : (0 : Int) ≤ (I_423 o 6).toInt ∧ (I_423 o 6).toInt ≤ 1600 := hR_425.at0 ra 6 (by decide)
            unfold fModel_numeral_69
            refine y_Model_isGood hok hw ra hR_425 (fun r_433 u_434 u_435 u_436 => ⟨r_433, I_423, L_424, rfl, rfl, ?_⟩)
            have b_437 : 0 ≤ r_433.toInt ∧ r_433.toInt ≤ 1 := u_434.rg
            refine ⟨fun c_438 => ?_, fun c_438 => ?_⟩
            · have d_439 := iEq c_438
              exact (hp _ _ _ hR_425 hf_427 (by first | omega | (intro h; omega) | exact Or.inl rfl | exact Or.inr rfl) (by first | omega | (intro h; omega) | exact Or.inl rfl | exact Or.inr rfl) (by first | assumption | (intro h; have q := hq1 (by omega); omega)) (by first | assumption | (intro h; omega) | (intro h; simp only [Im] at *; omega)) (by first | omega | (intro h; omega) | exact Or.inl rfl | exact Or.inr rfl) (by first | omega | (intro h; omega) | exact Or.inl rfl | exact Or.inr rfl) (by first | omega | (intro h; omega) | exact Or.inl rfl | exact Or.inr rfl) (by first | omega | (intro h; omega) | exact Or.inl rfl | exact Or.inr rfl) (by first | omega | (intro h; omega) | exact Or.inl rfl | exact Or.inr rfl) (by first | omega | (intro h; omega) | exact Or.inl rfl | exact Or.inr rfl) (by first | omega | (intro h; omega) | exact Or.inl rfl | exact Or.inr rfl) (by first | omega | (intro h; omega) | exact Or.inl rfl | exact Or.inr rfl) (by first | omega | (intro h; omega) | exact Or.inl rfl | exact Or.inr rfl))
            · have d_440 := iNe c_438
              exact (hp _ _ _ hR_425 hf_427 (by first | omega | (intro h; omega) | exact Or.inl rfl | exact Or.inr rfl) (by first | omega | (intro h; omega) | exact Or.inl rfl | exact Or.inr rfl) (by first | assumption | (intro h; have q := hq1 (by omega); omega)) (by first | assumption | (intro h; omega) | (intro h; simp only [Im] at *; omega)) (by first | omega | (intro h; omega) | exact Or.inl rfl | exact Or.inr rfl) (by first | omega | (intro h; omega) | exact Or.inl rfl | exact Or.inr rfl) (by first | omega | (intro h; omega) | exact Or.inl rfl | exact Or.inr rfl) (by first | omega | (intro h; omega) | exact Or.inl rfl | exact Or.inr rfl) (by first | omega | (intro h; omega) | exact Or.inl rfl | exact Or.inr rfl) (by first | omega | (intro h; omega) | exact Or.inl rfl | exact Or.inr rfl) (by first | omega | (intro h; omega) | exact Or.inl rfl | exact Or.inr rfl) (by first | omega | (intro h; omega) | exact Or.inl rfl | exact Or.inr rfl) (by first | omega | (intro h; omega) | exact Or.inl rfl | exact Or.inr rfl))
        · have d_441 := iNlt c_362
          refine ⟨fun c_442 => ?_, fun c_442 => ?_⟩
          · have d_443 := iLe c_442
            unfold fModel_numeral_53
            refine y_Model_isGood hok hw ra hR_299 (fun r_444 u_445 u_446 u_447 => ⟨r_444, I_297, L_298, rfl, rfl, ?_⟩)
            have b_448 : 0 ≤ r_444.toInt ∧ r_444.toInt ≤ 1 := u_445.rg
            refine ⟨fun c_449 => ?_, fun c_449 => ?_⟩
            · have d_450 := iEq c_449
              unfold fModel_numeral_69
              refine y_Model_isGood hok hw ra hR_299 (fun r_451 u_452 u_453 u_454 => ⟨r_451, I_297, L_298, rfl, rfl, ?_⟩)
              have b_455 : 0 ≤ r_451.toInt ∧ r_451.toInt ≤ 1 := u_452.rg
              refine ⟨fun c_456 => ?_, fun c_456 => ?_⟩
              · have d_457 := iEq c_456
                exact (hp _ _ _ hR_299 hf_301 (by first | omega | (intro h; omega) | exact Or.inl rfl | exact Or.inr rfl) (by first | omega | (intro h; omega) | exact Or.inl rfl | exact Or.inr rfl) (by first | assumption | (intro h; have q := hq1 (by omega); omega)) (by first | assumption | (intro h; omega) | (intro h; simp only [Im] at *; omega)) (by first | omega | (intro h; omega) | exact Or.inl rfl | exact Or.inr rfl) (by first | omega | (intro h; omega) | exact Or.inl rfl | exact Or.inr rfl) (by first | omega | (intro h; omega) | exact Or.inl rfl | exact Or.inr rfl) (by first | omega | (intro h; omega) | exact Or.inl rfl | exact Or.inr rfl) (by first | omega | (intro h; omega) | exact Or.inl rfl | exact Or.inr rfl) (by first | omega | (intro h; omega) | exact Or.inl rfl | exact Or.inr rfl) (by first | omega | (intro h; omega) | exact Or.inl rfl | exact Or.inr rfl) (by first | omega | (intro h; omega) | exact Or.inl rfl | exact Or.inr rfl) (by first | omega | (intro h; omega) | exact Or.inl rfl | exact Or.inr rfl))
              · have d_458 := iNe c_456
                exact (hp _ _ _ hR_299 hf_301 (by first | omega | (intro h; omega) | exact Or.inl rfl | exact Or.inr rfl) (by first | omega | (intro h; omega) | exact Or.inl rfl | exact Or.inr rfl) (by first | assumption | (intro h; have q := hq1 (by omega); omega)) (by first | assumption | (intro h; omega) | (intro h; simp only [Im] at *; omega)) (by first | omega | (intro h; omega) | exact Or.inl rfl | exact Or.inr rfl) (by first | omega | (intro h; omega) | exact Or.inl rfl | exact Or.inr rfl) (by first | omega | (intro h; omega) | exact Or.inl rfl | exact Or.inr rfl) (by first | omega | (intro h; omega) | exact Or.inl rfl | exact Or.inr rfl) (by first | omega | (intro h; omega) | exact Or.inl rfl | exact Or.inr rfl) (by first | omega | (intro h; omega) | exact Or.inl rfl | exact Or.inr rfl) (by first | omega | (intro h; omega) | exact Or.inl rfl | exact Or.inr rfl) (by first | omega | (intro h; omega) | exact Or.inl rfl | exact Or.inr rfl) (by first | omega | (intro h; omega) | exact Or.inl rfl | exact Or.inr rfl))
            · have d_459 := iNe c_449
              refine y_Model_next hok hw ra (by first | omega | (intro h; omega) | exact Or.inl rfl | exact Or.inr rfl) hR_299 (fun I_475 L_476 hR_477 fr_478 u_461 u_462 u_463 u_464 u_465 u_466 u_467 u_468 u_469 u_470 u_471 u_472 u_473 u_474 => ⟨I_475, L_476, rfl, rfl, ?_⟩)
              have hf_479 : Fm (fun c => c = o) I0 I_475 := hf_301.call fr_478 (fun c hc => by first | exact hc | (dsimp only at hc ⊢; omega) | omega)
              have g_480 : (0 : Int) ≤ (I_475 o 7).toInt ∧ (I_475 o 7).toInt ≤ 1601 := hR_477.at0 ra 7 (by decide)
              have g_481 : (0 : Int) ≤ (I_475 o 3).toInt ∧ (I_475 o 3).toInt ≤ 1600 := hR_477.at0 ra 3 (by decide)
              have g_482 : (0 : Int) ≤ (I_475 o 35).toInt ∧ (I_475 o 35).toInt ≤ 1 := hR_477.at0 ra 35 (by decide)
              have g_483 : (0 : Int) ≤ (I_475 o 67).toInt ∧ (I_475 o 67).toInt ≤ 40 := hR_477.at0 ra 67 (by decide)
              unfold fModel_numeral_69
              refine y_Model_isGood hok hw ra hR_477 (fun r_484 u_485 u_486 u_487 => ⟨r_484, I_475, L_476, rfl, rfl, ?_⟩)
              have b_488 : 0 ≤ r_484.toInt ∧ r_484.toInt ≤ 1 := u_485.rg
              refine ⟨fun c_489 => ?_, fun c_489 => ?_⟩
              · have d_490 := iEq c_489
                exact (hp _ _ _ hR_477 hf_479 (by first | omega | (intro h; omega) | exact Or.inl rfl | exact Or.inr rfl) (by first | omega | (intro h; omega) | exact Or.inl rfl | exact Or.inr rfl) (by first | assumption | (intro h; have q := hq1 (by omega); omega)) (by first | assumption | (intro h; omega) | (intro h; simp only [Im] at *; omega)) (by first | omega | (intro h; omega) | exact Or.inl rfl | exact Or.inr rfl) (by first | omega | (intro h; omega) | exact Or.inl rfl | exact Or.inr rfl) (by first | omega | (intro h; omega) | exact Or.inl rfl | exact Or.inr rfl) (by first | omega | (intro h; omega) | exact Or.inl rfl | exact Or.inr rfl) (by first | omega | (intro h; omega) | exact Or.inl rfl | exact Or.inr rfl) (by first | omega | (intro h; omega) | exact Or.inl rfl | exact Or.inr rfl) (by first | omega | (intro h; omega) | exact Or.inl rfl | exact Or.inr rfl) (by first | omega | (intro h; omega) | exact Or.inl rfl | exact Or.inr rfl) (by first | omega | (intro h; omega) | exact Or.inl rfl | exact Or.inr rfl))
              · have d_491 := iNe c_489
                exact (hp _ _ _ hR_477 hf_479 (by first | omega | (intro h; omega) | exact Or.inl rfl | exact Or.inr rfl) (by first | omega | (intro h; omega) | exact Or.inl rfl | exact Or.inr rfl) (by first | assumption | (intro h; have q := hq1 (by omega); omega)) (by first | assumption | (intro h; omega) | (intro h; simp only [Im] at *; omega)) (by first | omega | (intro h; omega) | exact Or.inl rfl | exact Or.inr rfl) (by first | omega | (intro h; omega) | exact Or.inl rfl | exact Or.inr rfl) (by first | omega | (intro h; omega) | exact Or.inl rfl | exact Or.inr rfl) (by first | omega | (intro h; omega) | exact Or.inl rfl | exact Or.inr rfl) (by first | omega | (intro h; omega) | exact Or.inl rfl | exact Or.inr rfl) (by first | omega | (intro h; omega) | exact Or.inl rfl | exact Or.inr rfl) (by first | omega | (intro h; omega) | exact Or.inl rfl | exact Or.inr rfl) (by first | omega | (intro h; omega) | exact Or.inl rfl | exact Or.inr rfl) (by first | omega | (intro h; omega) | exact Or.inl rfl | exact Or.inr rfl))
          · have d_492 := iNle c_442
            unfold fModel_numeral_44
            have g_493 : (0 : Int) ≤ (I_297 o 6).toInt ∧ (I_297 o 6).toInt ≤ 1600 := hR_299.at0 ra 6 (by decide)
            refine y_Model_fails hok hw ra (by first | omega | (intro h; omega) | exact Or.inl rfl | exact Or.inr rfl) hR_299 (fun I_511 L_512 hR_513 fr_514 u_495 u_496 u_497 u_498 u_499 u_500 u_501 u_502 u_503 u_504 u_505 u_506 u_507 u_508 u_509 u_510 => ⟨I_511, L_512, rfl, rfl, ?_⟩)
            have hf_515 : Fm (fun c => c = o) I0 I_511 := hf_301.call fr_514 (fun c hc => by first | exact hc | (dsimp only at hc ⊢; omega) | omega)
            have g_516 : (0 : Int) ≤ (I_511 o 7).toInt ∧ (I_511 o 7).toInt ≤ 1601 := hR_513.at0 ra 7 (by decide)
            have g_517 : (0 : Int) ≤ (I_511 o 3).toInt ∧ (I_511 o 3).toInt ≤ 1600 := hR_513.at0 ra 3 (by decide)
            have g_518 : (0 : Int) ≤ (I_511 o 35).toInt ∧ (I_511 o 35).toInt ≤ 1 := hR_513.at0 ra 35 (by decide)
            have g_519 : (0 : Int) ≤ (I_511 o 67).toInt ∧ (I_511 o 67).toInt ≤ 40 := hR_513.at0 ra 67 (by decide)
            have g_520 : (0 : Int) ≤ (I_511 o 6).toInt ∧ (I_511 o 6).toInt ≤ 1600 := hR_513.at0 ra 6 (by decide)
            unfold fModel_numeral_53
            refine y_Model_isGood hok hw ra hR_513 (fun r_521 u_522 u_523 u_524 => ⟨r_521, I_511, L_512, rfl, rfl, ?_⟩)
            have b_525 : 0 ≤ r_521.toInt ∧ r_521.toInt ≤ 1 := u_522.rg
            refine ⟨fun c_526 => ?_, fun c_526 => ?_⟩
            · have d_527 := iEq c_526
              unfold fModel_numeral_69
              refine y_Model_isGood hok hw ra hR_513 (fun r_528 u_529 u_530 u_531 => ⟨r_528, I_511, L_512, rfl, rfl, ?_⟩)
              have b_532 : 0 ≤ r_528.toInt ∧ r_528.toInt ≤ 1 := u_529.rg
              refine ⟨fun c_533 => ?_, fun c_533 => ?_⟩
              · have d_534 := iEq c_533
                exact (hp _ _ _ hR_513 hf_515 (by first | omega | (intro h; omega) | exact Or.inl rfl | exact Or.inr rfl) (by first | omega | (intro h; omega) | exact Or.inl rfl | exact Or.inr rfl) (by first | assumption | (intro h; have q := hq1 (by omega); omega)) (by first | assumption | (intro h; omega) | (intro h; simp only [Im] at *; omega)) (by first | omega | (intro h; omega) | exact Or.inl rfl | exact Or.inr rfl) (by first | omega | (intro h; omega) | exact Or.inl rfl | exact Or.inr rfl) (by first | omega | (intro h; omega) | exact Or.inl rfl | exact Or.inr rfl) (by first | omega | (intro h; omega) | exact Or.inl rfl | exact Or.inr rfl) (by first | omega | (intro h; omega) | exact Or.inl rfl | exact Or.inr rfl) (by first | omega | (intro h; omega) | exact Or.inl rfl | exact Or.inr rfl) (by first | omega | (intro h; omega) | exact Or.inl rfl | exact Or.inr rfl) (by first | omega | (intro h; omega) | exact Or.inl rfl | exact Or.inr rfl) (by first | omega | (intro h; omega) | exact Or.inl rfl | exact Or.inr rfl))
              · have d_535 := iNe c_533
                exact (hp _ _ _ hR_513 hf_515 (by first | omega | (intro h; omega) | exact Or.inl rfl | exact Or.inr rfl) (by first | omega | (intro h; omega) | exact Or.inl rfl | exact Or.inr rfl) (by first | assumption | (intro h; have q := hq1 (by omega); omega)) (by first | assumption | (intro h; omega) | (intro h; simp only [Im] at *; omega)) (by first | omega | (intro h; omega) | exact Or.inl rfl | exact Or.inr rfl) (by first | omega | (intro h; omega) | exact Or.inl rfl | exact Or.inr rfl) (by first | omega | (intro h; omega) | exact Or.inl rfl | exact Or.inr rfl) (by first | omega | (intro h; omega) | exact Or.inl rfl | exact Or.inr rfl) (by first | omega | (intro h; omega) | exact Or.inl rfl | exact Or.inr rfl) (by first | omega | (intro h; omega) | exact Or.inl rfl | exact Or.inr rfl) (by first | omega | (intro h; omega) | exact Or.inl rfl | exact Or.inr rfl) (by first | omega | (intro h; omega) | exact Or.inl rfl | exact Or.inr rfl) (by first | omega | (intro h; omega) | exact Or.inl rfl | exact Or.inr rfl))
            · have d_536 := iNe c_526
              refine y_Model_next hok hw ra (by first | omega | (intro h; omega) | exact Or.inl rfl | exact Or.inr rfl) hR_513 (fun I_552 L_553 hR_554 fr_555 u_538 u_539 u_540 u_541 u_542 u_543 u_544 u_545 u_546 u_547 u_548 u_549 u_550 u_551 => ⟨I_552, L_553, rfl, rfl, ?_⟩)
              have hf_556 : Fm (fun c => c = o) I0 I_552 := hf_515.call fr_555 (fun c hc => by first | exact hc | (dsimp only at hc ⊢; omega) | omega)
              have g_557 : (0 : Int) ≤ (I_552 o 7).toInt ∧ (I_552 o 7).toInt ≤ 1601 := hR_554.at0 ra 7 (by decide)
              have g_558 : (0 : Int) ≤ (I_552 o 3).toInt ∧ (I_552 o 3).toInt ≤ 1600 := hR_554.at0 ra 3 (by decide)
              have g_559 : (0 : Int) ≤ (I_552 o 35).toInt ∧ (I_552 o 35).toInt ≤ 1 := hR_554.at0 ra 35 (by decide)
              have g_560 : (0 : Int) ≤ (I_552 o 67).toInt ∧ (I_552 o 67).toInt ≤ 40 := hR_554.at0 ra 67 (by decide)
              have g_561 : (0 : Int) ≤ (I_552 o 6).toInt ∧ (I_552 o 6).toInt ≤ 1600 := hR_554.at0 ra 6 (by decide)
              unfold fModel_numeral_69
              refine y_Model_isGood hok hw ra hR_554 (fun r_562 u_563 u_564 u_565 => ⟨r_562, I_552, L_553, rfl, rfl, ?_⟩)
              have b_566 : 0 ≤ r_562.toInt ∧ r_562.toInt ≤ 1 := u_563.rg
              refine ⟨fun c_567 => ?_, fun c_567 => ?_⟩
              · have d_568 := iEq c_567
                exact (hp _ _ _ hR_554 hf_556 (by first | omega | (intro h; omega) | exact Or.inl rfl | exact Or.inr rfl) (by first | omega | (intro h; omega) | exact Or.inl rfl | exact Or.inr rfl) (by first | assumption | (intro h; have q := hq1 (by omega); omega)) (by first | assumption | (intro h; omega) | (intro h; simp only [Im] at *; omega)) (by first | omega | (intro h; omega) | exact Or.inl rfl | exact Or.inr rfl) (by first | omega | (intro h; omega) | exact Or.inl rfl | exact Or.inr rfl) (by first | omega | (intro h; omega) | exact Or.inl rfl | exact Or.inr rfl) (by first | omega | (intro h; omega) | exact Or.inl rfl | exact Or.inr rfl) (by first | omega | (intro h; omega) | exact Or.inl rfl | exact Or.inr rfl) (by first | omega | (intro h; omega) | exact Or.inl rfl | exact Or.inr rfl) (by first | omega | (intro h; omega) | exact Or.inl rfl | exact Or.inr rfl) (by first | omega | (intro h; omega) | exact Or.inl rfl | exact Or.inr rfl) (by first | omega | (intro h; omega) | exact Or.inl rfl | exact Or.inr rfl))
              · have d_569 := iNe c_567
                exact (hp _ _ _ hR_554 hf_556 (by first | omega | (intro h; omega) | exact Or.inl rfl | exact Or.inr rfl) (by first | omega | (intro h; omega) | exact Or.inl rfl | exact Or.inr rfl) (by first | assumption | (intro h; have q := hq1 (by omega); omega)) (by first | assumption | (intro h; omega) | (intro h; simp only [Im] at *; omega)) (by first | omega | (intro h; omega) | exact Or.inl rfl | exact Or.inr rfl) (by first | omega | (intro h; omega) | exact Or.inl rfl | exact Or.inr rfl) (by first | omega | (intro h; omega) | exact Or.inl rfl | exact Or.inr rfl) (by first | omega | (intro h; omega) | exact Or.inl rfl | exact Or.inr rfl) (by first | omega | (intro h; omega) | exact Or.inl rfl | exact Or.inr rfl) (by first | omega | (intro h; omega) | exact Or.inl rfl | exact Or.inr rfl) (by first | omega | (intro h; omega) | exact Or.inl rfl | exact Or.inr rfl) (by first | omega | (intro h; omega) | exact Or.inl rfl | exact Or.inr rfl) (by first | omega | (intro h; omega) | exact Or.inl rfl | exact Or.inr rfl))
  · have d_570 := iEq c_11
    exact (hp _ _ _ hR hf (by first | omega | (intro h; omega) | exact Or.inl rfl | exact Or.inr rfl) (by first | omega | (intro h; omega) | exact Or.inl rfl | exact Or.inr rfl) (by first | assumption | (intro h; have q := hq1 (by omega); omega)) (by first | assumption | (intro h; omega) | (intro h; simp only [Im] at *; omega)) (by first | omega | (intro h; omega) | exact Or.inl rfl | exact Or.inr rfl) (by first | omega | (intro h; omega) | exact Or.inl rfl | exact Or.inr rfl) (by first | omega | (intro h; omega) | exact Or.inl rfl | exact Or.inr rfl) (by first | omega | (intro h; omega) | exact Or.inl rfl | exact Or.inr rfl) (by first | omega | (intro h; omega) | exact Or.inl rfl | exact Or.inr rfl) (by first | omega | (intro h; omega) | exact Or.inl rfl | exact Or.inr rfl) (by first | omega | (intro h; omega) | exact Or.inl rfl | exact Or.inr rfl) (by first | omega | (intro h; omega) | exact Or.inl rfl | exact Or.inr rfl) (by first | omega | (intro h; omega) | exact Or.inl rfl | exact Or.inr rfl))
set_option maxHeartbeats 4000000 in
set_option maxRecDepth 20000 in
theorem y_Model_newName {D : va_G} {cA : FieldType → ClassId} {b : Nat} {E : State → Prop} {R : qRg} {o n : Nat} {sh : Nat → qC} {Rf : Nat → Nat → Option Nat} {I0 : Nat → Nat → Int32} {L0 : Nat → Nat → Int64} {post : Option Value → qS → Prop} (hok : q_ok (qGG D cA b E)) (hw : WfModel (qGG D cA b E) n sh Rf o) (ra : RAModel R o) (hq0 : (I0 o 7).toInt ≤ (I0 o 3).toInt) (hq1 : Im ((I0 o 8).toInt = 5) (0 ≤ (I0 o 9).toInt ∧ (I0 o 9).toInt ≤ 15)) (hR : RI R I0) (hp : ∀ (r : Int64) (I' : Nat → Nat → Int32) (L' : Nat → Nat → Int64), RI R I' → Fm (fun c => c = o) I0 I' → ((I' o 7).toInt ≤ (I' o 3).toInt) → ((I0 o 7).toInt ≤ (I' o 7).toInt) → (Im ((I' o 8).toInt = 5) (0 ≤ (I' o 9).toInt ∧ (I' o 9).toInt ≤ 15)) → (Im ((I0 o 4).toInt ≠ 0) ((I' o 4).toInt ≠ 0)) → ((I' o 3).toInt = (I0 o 3).toInt) → ((I' o 35).toInt = (I0 o 35).toInt) → ((I' o 44).toInt = (I0 o 44).toInt) → ((I' o 45).toInt = (I0 o 45).toInt) → ((I' o 46).toInt = (I0 o 46).toInt) → ((I' o 47).toInt = (I0 o 47).toInt) → ((I' o 48).toInt = (I0 o 48).toInt) → ((I' o 49).toInt = (I0 o 49).toInt) → ((I' o 67).toInt = (I0 o 67).toInt) → post (some (.long r)) (n, sh, Rf, I', L')) : Ev (qGG D cA b E) mModel_newName 4 (0, 0) 0 (lv_args 0 [.ref o]) [] (n, sh, Rf, I0, L0) post := by
  have hf : Fm (fun c => c = o) I0 I0 := Fm.rf
  have g_1 : (0 : Int) ≤ (I0 o 7).toInt ∧ (I0 o 7).toInt ≤ 1601 := hR.at0 ra 7 (by decide)
  have g_2 : (0 : Int) ≤ (I0 o 3).toInt ∧ (I0 o 3).toInt ≤ 1600 := hR.at0 ra 3 (by decide)
  have g_3 : (0 : Int) ≤ (I0 o 35).toInt ∧ (I0 o 35).toInt ≤ 1 := hR.at0 ra 35 (by decide)
  have g_4 : (0 : Int) ≤ (I0 o 67).toInt ∧ (I0 o 67).toInt ≤ 40 := hR.at0 ra 67 (by decide)
  refine sModel_newName_0 o n sh Rf I0 L0 post  hok hw ?_
  unfold fModel_newName_0
  refine y_Model_isGood hok hw ra hR (fun r_5 u_6 u_7 u_8 => ⟨r_5, I0, L0, rfl, rfl, ?_⟩)
  have b_9 : 0 ≤ r_5.toInt ∧ r_5.toInt ≤ 1 := u_6.rg
  have l_10 : (0 : Int32).toInt = 0 := rfl
  refine ⟨fun c_11 => ?_, fun c_11 => ?_⟩
  · have d_12 := iEq c_11
    unfold fModel_newName_37
    have l_13 : (2 : Int32).toInt = 2 := rfl
    refine ⟨fun c_14 => ?_, fun c_14 => ?_⟩
    · have d_15 := iNe c_14
      unfold fModel_newName_51
      refine y_Model_must hok hw ra (by first | omega | (intro h; omega) | exact Or.inl rfl | exact Or.inr rfl) (by first | assumption | (intro h; have q := hq1 (by omega); omega)) hR (fun I_31 L_32 hR_33 fr_34 u_17 u_18 u_19 u_20 u_21 u_22 u_23 u_24 u_25 u_26 u_27 u_28 u_29 u_30 => ⟨I_31, L_32, rfl, rfl, ?_⟩)
      have hf_35 : Fm (fun c => c = o) I0 I_31 := hf.call fr_34 (fun c hc => by first | exact hc | (dsimp only at hc ⊢; omega) | omega)
      have g_36 : (0 : Int) ≤ (I_31 o 7).toInt ∧ (I_31 o 7).toInt ≤ 1601 := hR_33.at0 ra 7 (by decide)
      have g_37 : (0 : Int) ≤ (I_31 o 3).toInt ∧ (I_31 o 3).toInt ≤ 1600 := hR_33.at0 ra 3 (by decide)
      have g_38 : (0 : Int) ≤ (I_31 o 35).toInt ∧ (I_31 o 35).toInt ≤ 1 := hR_33.at0 ra 35 (by decide)
      have g_39 : (0 : Int) ≤ (I_31 o 67).toInt ∧ (I_31 o 67).toInt ≤ 40 := hR_33.at0 ra 67 (by decide)
      have l_40 : (24948 : Int32).toInt = 24948 := rfl
      refine y_Model_isWord hok hw ra hR_33 (fun r_41 u_42 u_43 => ⟨r_41, I_31, L_32, rfl, rfl, ?_⟩)
      have b_44 : 0 ≤ r_41.toInt ∧ r_41.toInt ≤ 1 := u_42.rg
      refine y_Model_must hok hw ra (by first | omega | (intro h; omega) | exact Or.inl rfl | exact Or.inr rfl) (by first | assumption | (intro h; have q := hq1 (by omega); omega)) hR_33 (fun I_60 L_61 hR_62 fr_63 u_46 u_47 u_48 u_49 u_50 u_51 u_52 u_53 u_54 u_55 u_56 u_57 u_58 u_59 => ⟨I_60, L_61, rfl, rfl, ?_⟩)
      have hf_64 : Fm (fun c => c = o) I0 I_60 := hf_35.call fr_63 (fun c hc => by first | exact hc | (dsimp only at hc ⊢; omega) | omega)
      have g_65 : (0 : Int) ≤ (I_60 o 7).toInt ∧ (I_60 o 7).toInt ≤ 1601 := hR_62.at0 ra 7 (by decide)
      have g_66 : (0 : Int) ≤ (I_60 o 3).toInt ∧ (I_60 o 3).toInt ≤ 1600 := hR_62.at0 ra 3 (by decide)
      have g_67 : (0 : Int) ≤ (I_60 o 35).toInt ∧ (I_60 o 35).toInt ≤ 1 := hR_62.at0 ra 35 (by decide)
      have g_68 : (0 : Int) ≤ (I_60 o 67).toInt ∧ (I_60 o 67).toInt ≤ 40 := hR_62.at0 ra 67 (by decide)
      exact (hp _ _ _ hR_62 hf_64 (by first | omega | (intro h; omega) | exact Or.inl rfl | exact Or.inr rfl) (by first | omega | (intro h; omega) | exact Or.inl rfl | exact Or.inr rfl) (by first | assumption | (intro h; have q := hq1 (by omega); omega)) (by first | assumption | (intro h; omega) | (intro h; simp only [Im] at *; omega)) (by first | omega | (intro h; omega) | exact Or.inl rfl | exact Or.inr rfl) (by first | omega | (intro h; omega) | exact Or.inl rfl | exact Or.inr rfl) (by first | omega | (intro h; omega) | exact Or.inl rfl | exact Or.inr rfl) (by first | omega | (intro h; omega) | exact Or.inl rfl | exact Or.inr rfl) (by first | omega | (intro h; omega) | exact Or.inl rfl | exact Or.inr rfl) (by first | omega | (intro h; omega) | exact Or.inl rfl | exact Or.inr rfl) (by first | omega | (intro h; omega) | exact Or.inl rfl | exact Or.inr rfl) (by first | omega | (intro h; omega) | exact Or.inl rfl | exact Or.inr rfl) (by first | omega | (intro h; omega) | exact Or.inl rfl | exact Or.inr rfl))
    · have d_69 := iEq c_14
      unfold fModel_newName_51
      have l_70 : (1 : Int32).toInt = 1 := rfl
      refine y_Model_must hok hw ra (by first | omega | (intro h; omega) | exact Or.inl rfl | exact Or.inr rfl) (by first | assumption | (intro h; have q := hq1 (by omega); omega)) hR (fun I_86 L_87 hR_88 fr_89 u_72 u_73 u_74 u_75 u_76 u_77 u_78 u_79 u_80 u_81 u_82 u_83 u_84 u_85 => ⟨I_86, L_87, rfl, rfl, ?_⟩)
      have hf_90 : Fm (fun c => c = o) I0 I_86 := hf.call fr_89 (fun c hc => by first | exact hc | (dsimp only at hc ⊢; omega) | omega)
      have g_91 : (0 : Int) ≤ (I_86 o 7).toInt ∧ (I_86 o 7).toInt ≤ 1601 := hR_88.at0 ra 7 (by decide)
      have g_92 : (0 : Int) ≤ (I_86 o 3).toInt ∧ (I_86 o 3).toInt ≤ 1600 := hR_88.at0 ra 3 (by decide)
      have g_93 : (0 : Int) ≤ (I_86 o 35).toInt ∧ (I_86 o 35).toInt ≤ 1 := hR_88.at0 ra 35 (by decide)
      have g_94 : (0 : Int) ≤ (I_86 o 67).toInt ∧ (I_86 o 67).toInt ≤ 40 := hR_88.at0 ra 67 (by decide)
      have l_95 : (24948 : Int32).toInt = 24948 := rfl
      refine y_Model_isWord hok hw ra hR_88 (fun r_96 u_97 u_98 => ⟨r_96, I_86, L_87, rfl, rfl, ?_⟩)
      have b_99 : 0 ≤ r_96.toInt ∧ r_96.toInt ≤ 1 := u_97.rg
      refine y_Model_must hok hw ra (by first | omega | (intro h; omega) | exact Or.inl rfl | exact Or.inr rfl) (by first | assumption | (intro h; have q := hq1 (by omega); omega)) hR_88 (fun I_115 L_116 hR_117 fr_118 u_101 u_102 u_103 u_104 u_105 u_106 u_107 u_108 u_109 u_110 u_111 u_112 u_113 u_114 => ⟨I_115, L_116, rfl, rfl, ?_⟩)
      have hf_119 : Fm (fun c => c = o) I0 I_115 := hf_90.call fr_118 (fun c hc => by first | exact hc | (dsimp only at hc ⊢; omega) | omega)
      have g_120 : (0 : Int) ≤ (I_115 o 7).toInt ∧ (I_115 o 7).toInt ≤ 1601 := hR_117.at0 ra 7 (by decide)
      have g_121 : (0 : Int) ≤ (I_115 o 3).toInt ∧ (I_115 o 3).toInt ≤ 1600 := hR_117.at0 ra 3 (by decide)
      have g_122 : (0 : Int) ≤ (I_115 o 35).toInt ∧ (I_115 o 35).toInt ≤ 1 := hR_117.at0 ra 35 (by decide)
      have g_123 : (0 : Int) ≤ (I_115 o 67).toInt ∧ (I_115 o 67).toInt ≤ 40 := hR_117.at0 ra 67 (by decide)
      exact (hp _ _ _ hR_117 hf_119 (by first | omega | (intro h; omega) | exact Or.inl rfl | exact Or.inr rfl) (by first | omega | (intro h; omega) | exact Or.inl rfl | exact Or.inr rfl) (by first | assumption | (intro h; have q := hq1 (by omega); omega)) (by first | assumption | (intro h; omega) | (intro h; simp only [Im] at *; omega)) (by first | omega | (intro h; omega) | exact Or.inl rfl | exact Or.inr rfl) (by first | omega | (intro h; omega) | exact Or.inl rfl | exact Or.inr rfl) (by first | omega | (intro h; omega) | exact Or.inl rfl | exact Or.inr rfl) (by first | omega | (intro h; omega) | exact Or.inl rfl | exact Or.inr rfl) (by first | omega | (intro h; omega) | exact Or.inl rfl | exact Or.inr rfl) (by first | omega | (intro h; omega) | exact Or.inl rfl | exact Or.inr rfl) (by first | omega | (intro h; omega) | exact Or.inl rfl | exact Or.inr rfl) (by first | omega | (intro h; omega) | exact Or.inl rfl | exact Or.inr rfl) (by first | omega | (intro h; omega) | exact Or.inl rfl | exact Or.inr rfl))
  · have d_124 := iNe c_11
    have l_125 : (2 : Int32).toInt = 2 := rfl
    refine ⟨fun c_126 => ?_, fun c_126 => ?_⟩
    · have d_127 := iNe c_126
      unfold fModel_newName_37
      refine ⟨fun c_128 => ?_, fun c_128 => ?_⟩
      · have d_129 := iNe c_128
        unfold fModel_newName_51
        refine y_Model_must hok hw ra (by first | omega | (intro h; omega) | exact Or.inl rfl | exact Or.inr rfl) (by first | assumption | (intro h; have q := hq1 (by omega); omega)) hR (fun I_145 L_146 hR_147 fr_148 u_131 u_132 u_133 u_134 u_135 u_136 u_137 u_138 u_139 u_140 u_141 u_142 u_143 u_144 => ⟨I_145, L_146, rfl, rfl, ?_⟩)
        have hf_149 : Fm (fun c => c = o) I0 I_145 := hf.call fr_148 (fun c hc => by first | exact hc | (dsimp only at hc ⊢; omega) | omega)
        have g_150 : (0 : Int) ≤ (I_145 o 7).toInt ∧ (I_145 o 7).toInt ≤ 1601 := hR_147.at0 ra 7 (by decide)
        have g_151 : (0 : Int) ≤ (I_145 o 3).toInt ∧ (I_145 o 3).toInt ≤ 1600 := hR_147.at0 ra 3 (by decide)
        have g_152 : (0 : Int) ≤ (I_145 o 35).toInt ∧ (I_145 o 35).toInt ≤ 1 := hR_147.at0 ra 35 (by decide)
        have g_153 : (0 : Int) ≤ (I_145 o 67).toInt ∧ (I_145 o 67).toInt ≤ 40 := hR_147.at0 ra 67 (by decide)
        have l_154 : (24948 : Int32).toInt = 24948 := rfl
        refine y_Model_isWord hok hw ra hR_147 (fun r_155 u_156 u_157 => ⟨r_155, I_145, L_146, rfl, rfl, ?_⟩)
        have b_158 : 0 ≤ r_155.toInt ∧ r_155.toInt ≤ 1 := u_156.rg
        refine y_Model_must hok hw ra (by first | omega | (intro h; omega) | exact Or.inl rfl | exact Or.inr rfl) (by first | assumption | (intro h; have q := hq1 (by omega); omega)) hR_147 (fun I_174 L_175 hR_176 fr_177 u_160 u_161 u_162 u_163 u_164 u_165 u_166 u_167 u_168 u_169 u_170 u_171 u_172 u_173 => ⟨I_174, L_175, rfl, rfl, ?_⟩)
        have hf_178 : Fm (fun c => c = o) I0 I_174 := hf_149.call fr_177 (fun c hc => by first | exact hc | (dsimp only at hc ⊢; omega) | omega)
        have g_179 : (0 : Int) ≤ (I_174 o 7).toInt ∧ (I_174 o 7).toInt ≤ 1601 := hR_176.at0 ra 7 (by decide)
        have g_180 : (0 : Int) ≤ (I_174 o 3).toInt ∧ (I_174 o 3).toInt ≤ 1600 := hR_176.at0 ra 3 (by decide)
        have g_181 : (0 : Int) ≤ (I_174 o 35).toInt ∧ (I_174 o 35).toInt ≤ 1 := hR_176.at0 ra 35 (by decide)
        have g_182 : (0 : Int) ≤ (I_174 o 67).toInt ∧ (I_174 o 67).toInt ≤ 40 := hR_176.at0 ra 67 (by decide)
        exact (hp _ _ _ hR_176 hf_178 (by first | omega | (intro h; omega) | exact Or.inl rfl | exact Or.inr rfl) (by first | omega | (intro h; omega) | exact Or.inl rfl | exact Or.inr rfl) (by first | assumption | (intro h; have q := hq1 (by omega); omega)) (by first | assumption | (intro h; omega) | (intro h; simp only [Im] at *; omega)) (by first | omega | (intro h; omega) | exact Or.inl rfl | exact Or.inr rfl) (by first | omega | (intro h; omega) | exact Or.inl rfl | exact Or.inr rfl) (by first | omega | (intro h; omega) | exact Or.inl rfl | exact Or.inr rfl) (by first | omega | (intro h; omega) | exact Or.inl rfl | exact Or.inr rfl) (by first | omega | (intro h; omega) | exact Or.inl rfl | exact Or.inr rfl) (by first | omega | (intro h; omega) | exact Or.inl rfl | exact Or.inr rfl) (by first | omega | (intro h; omega) | exact Or.inl rfl | exact Or.inr rfl) (by first | omega | (intro h; omega) | exact Or.inl rfl | exact Or.inr rfl) (by first | omega | (intro h; omega) | exact Or.inl rfl | exact Or.inr rfl))
      · have d_183 := iEq c_128
        unfold fModel_newName_51
        have l_184 : (1 : Int32).toInt = 1 := rfl
        refine y_Model_must hok hw ra (by first | omega | (intro h; omega) | exact Or.inl rfl | exact Or.inr rfl) (by first | assumption | (intro h; have q := hq1 (by omega); omega)) hR (fun I_200 L_201 hR_202 fr_203 u_186 u_187 u_188 u_189 u_190 u_191 u_192 u_193 u_194 u_195 u_196 u_197 u_198 u_199 => ⟨I_200, L_201, rfl, rfl, ?_⟩)
        have hf_204 : Fm (fun c => c = o) I0 I_200 := hf.call fr_203 (fun c hc => by first | exact hc | (dsimp only at hc ⊢; omega) | omega)
        have g_205 : (0 : Int) ≤ (I_200 o 7).toInt ∧ (I_200 o 7).toInt ≤ 1601 := hR_202.at0 ra 7 (by decide)
        have g_206 : (0 : Int) ≤ (I_200 o 3).toInt ∧ (I_200 o 3).toInt ≤ 1600 := hR_202.at0 ra 3 (by decide)
        have g_207 : (0 : Int) ≤ (I_200 o 35).toInt ∧ (I_200 o 35).toInt ≤ 1 := hR_202.at0 ra 35 (by decide)
        have g_208 : (0 : Int) ≤ (I_200 o 67).toInt ∧ (I_200 o 67).toInt ≤ 40 := hR_202.at0 ra 67 (by decide)
        have l_209 : (24948 : Int32).toInt = 24948 := rfl
        refine y_Model_isWord hok hw ra hR_202 (fun r_210 u_211 u_212 => ⟨r_210, I_200, L_201, rfl, rfl, ?_⟩)
        have b_213 : 0 ≤ r_210.toInt ∧ r_210.toInt ≤ 1 := u_211.rg
        refine y_Model_must hok hw ra (by first | omega | (intro h; omega) | exact Or.inl rfl | exact Or.inr rfl) (by first | assumption | (intro h; have q := hq1 (by omega); omega)) hR_202 (fun I_229 L_230 hR_231 fr_232 u_215 u_216 u_217 u_218 u_219 u_220 u_221 u_222 u_223 u_224 u_225 u_226 u_227 u_228 => ⟨I_229, L_230, rfl, rfl, ?_⟩)
        have hf_233 : Fm (fun c => c = o) I0 I_229 := hf_204.call fr_232 (fun c hc => by first | exact hc | (dsimp only at hc ⊢; omega) | omega)
        have g_234 : (0 : Int) ≤ (I_229 o 7).toInt ∧ (I_229 o 7).toInt ≤ 1601 := hR_231.at0 ra 7 (by decide)
        have g_235 : (0 : Int) ≤ (I_229 o 3).toInt ∧ (I_229 o 3).toInt ≤ 1600 := hR_231.at0 ra 3 (by decide)
        have g_236 : (0 : Int) ≤ (I_229 o 35).toInt ∧ (I_229 o 35).toInt ≤ 1 := hR_231.at0 ra 35 (by decide)
        have g_237 : (0 : Int) ≤ (I_229 o 67).toInt ∧ (I_229 o 67).toInt ≤ 40 := hR_231.at0 ra 67 (by decide)
        exact (hp _ _ _ hR_231 hf_233 (by first | omega | (intro h; omega) | exact Or.inl rfl | exact Or.inr rfl) (by first | omega | (intro h; omega) | exact Or.inl rfl | exact Or.inr rfl) (by first | assumption | (intro h; have q := hq1 (by omega); omega)) (by first | assumption | (intro h; omega) | (intro h; simp only [Im] at *; omega)) (by first | omega | (intro h; omega) | exact Or.inl rfl | exact Or.inr rfl) (by first | omega | (intro h; omega) | exact Or.inl rfl | exact Or.inr rfl) (by first | omega | (intro h; omega) | exact Or.inl rfl | exact Or.inr rfl) (by first | omega | (intro h; omega) | exact Or.inl rfl | exact Or.inr rfl) (by first | omega | (intro h; omega) | exact Or.inl rfl | exact Or.inr rfl) (by first | omega | (intro h; omega) | exact Or.inl rfl | exact Or.inr rfl) (by first | omega | (intro h; omega) | exact Or.inl rfl | exact Or.inr rfl) (by first | omega | (intro h; omega) | exact Or.inl rfl | exact Or.inr rfl) (by first | omega | (intro h; omega) | exact Or.inl rfl | exact Or.inr rfl))
    · have d_238 := iEq c_126
      refine y_Model_isTold hok hw ra hR (fun r_239 u_240 => ⟨r_239, I0, L0, rfl, rfl, ?_⟩)
      have b_241 : 0 ≤ r_239.toInt ∧ r_239.toInt ≤ 1 := u_240.rg
      refine ⟨fun c_242 => ?_, fun c_242 => ?_⟩
      · have d_243 := iEq c_242
        unfold fModel_newName_37
        refine ⟨fun c_244 => ?_, fun c_244 => ?_⟩
        · have d_245 := iNe c_244
          exfalso; omega
        · have d_246 := iEq c_244
          unfold fModel_newName_51
          have l_247 : (1 : Int32).toInt = 1 := rfl
          refine y_Model_must hok hw ra (by first | omega | (intro h; omega) | exact Or.inl rfl | exact Or.inr rfl) (by first | assumption | (intro h; have q := hq1 (by omega); omega)) hR (fun I_263 L_264 hR_265 fr_266 u_249 u_250 u_251 u_252 u_253 u_254 u_255 u_256 u_257 u_258 u_259 u_260 u_261 u_262 => ⟨I_263, L_264, rfl, rfl, ?_⟩)
          have hf_267 : Fm (fun c => c = o) I0 I_263 := hf.call fr_266 (fun c hc => by first | exact hc | (dsimp only at hc ⊢; omega) | omega)
          have g_268 : (0 : Int) ≤ (I_263 o 7).toInt ∧ (I_263 o 7).toInt ≤ 1601 := hR_265.at0 ra 7 (by decide)
          have g_269 : (0 : Int) ≤ (I_263 o 3).toInt ∧ (I_263 o 3).toInt ≤ 1600 := hR_265.at0 ra 3 (by decide)
          have g_270 : (0 : Int) ≤ (I_263 o 35).toInt ∧ (I_263 o 35).toInt ≤ 1 := hR_265.at0 ra 35 (by decide)
          have g_271 : (0 : Int) ≤ (I_263 o 67).toInt ∧ (I_263 o 67).toInt ≤ 40 := hR_265.at0 ra 67 (by decide)
          have l_272 : (24948 : Int32).toInt = 24948 := rfl
          refine y_Model_isWord hok hw ra hR_265 (fun r_273 u_274 u_275 => ⟨r_273, I_263, L_264, rfl, rfl, ?_⟩)
          have b_276 : 0 ≤ r_273.toInt ∧ r_273.toInt ≤ 1 := u_274.rg
          refine y_Model_must hok hw ra (by first | omega | (intro h; omega) | exact Or.inl rfl | exact Or.inr rfl) (by first | assumption | (intro h; have q := hq1 (by omega); omega)) hR_265 (fun I_292 L_293 hR_294 fr_295 u_278 u_279 u_280 u_281 u_282 u_283 u_284 u_285 u_286 u_287 u_288 u_289 u_290 u_291 => ⟨I_292, L_293, rfl, rfl, ?_⟩)
          have hf_296 : Fm (fun c => c = o) I0 I_292 := hf_267.call fr_295 (fun c hc => by first | exact hc | (dsimp only at hc ⊢; omega) | omega)
          have g_297 : (0 : Int) ≤ (I_292 o 7).toInt ∧ (I_292 o 7).toInt ≤ 1601 := hR_294.at0 ra 7 (by decide)
          have g_298 : (0 : Int) ≤ (I_292 o 3).toInt ∧ (I_292 o 3).toInt ≤ 1600 := hR_294.at0 ra 3 (by decide)
          have g_299 : (0 : Int) ≤ (I_292 o 35).toInt ∧ (I_292 o 35).toInt ≤ 1 := hR_294.at0 ra 35 (by decide)
          have g_300 : (0 : Int) ≤ (I_292 o 67).toInt ∧ (I_292 o 67).toInt ≤ 40 := hR_294.at0 ra 67 (by decide)
          exact (hp _ _ _ hR_294 hf_296 (by first | omega | (intro h; omega) | exact Or.inl rfl | exact Or.inr rfl) (by first | omega | (intro h; omega) | exact Or.inl rfl | exact Or.inr rfl) (by first | assumption | (intro h; have q := hq1 (by omega); omega)) (by first | assumption | (intro h; omega) | (intro h; simp only [Im] at *; omega)) (by first | omega | (intro h; omega) | exact Or.inl rfl | exact Or.inr rfl) (by first | omega | (intro h; omega) | exact Or.inl rfl | exact Or.inr rfl) (by first | omega | (intro h; omega) | exact Or.inl rfl | exact Or.inr rfl) (by first | omega | (intro h; omega) | exact Or.inl rfl | exact Or.inr rfl) (by first | omega | (intro h; omega) | exact Or.inl rfl | exact Or.inr rfl) (by first | omega | (intro h; omega) | exact Or.inl rfl | exact Or.inr rfl) (by first | omega | (intro h; omega) | exact Or.inl rfl | exact Or.inr rfl) (by first | omega | (intro h; omega) | exact Or.inl rfl | exact Or.inr rfl) (by first | omega | (intro h; omega) | exact Or.inl rfl | exact Or.inr rfl))
      · have d_301 := iNe c_242
        have g_302 : (0 : Int) ≤ (I0 o 6).toInt ∧ (I0 o 6).toInt ≤ 1600 := hR.at0 ra 6 (by decide)
        have l_303 : (3 : Int32).toInt = 3 := rfl
        refine y_Model_fails hok hw ra (by first | omega | (intro h; omega) | exact Or.inl rfl | exact Or.inr rfl) hR (fun I_321 L_322 hR_323 fr_324 u_305 u_306 u_307 u_308 u_309 u_310 u_311 u_312 u_313 u_314 u_315 u_316 u_317 u_318 u_319 u_320 => ⟨I_321, L_322, rfl, rfl, ?_⟩)
        have hf_325 : Fm (fun c => c = o) I0 I_321 := hf.call fr_324 (fun c hc => by first | exact hc | (dsimp only at hc ⊢; omega) | omega)
        have g_326 : (0 : Int) ≤ (I_321 o 7).toInt ∧ (I_321 o 7).toInt ≤ 1601 := hR_323.at0 ra 7 (by decide)
        have g_327 : (0 : Int) ≤ (I_321 o 3).toInt ∧ (I_321 o 3).toInt ≤ 1600 := hR_323.at0 ra 3 (by decide)
        have g_328 : (0 : Int) ≤ (I_321 o 35).toInt ∧ (I_321 o 35).toInt ≤ 1 := hR_323.at0 ra 35 (by decide)
        have g_329 : (0 : Int) ≤ (I_321 o 67).toInt ∧ (I_321 o 67).toInt ≤ 40 := hR_323.at0 ra 67 (by decide)
        have g_330 : (0 : Int) ≤ (I_321 o 6).toInt ∧ (I_321 o 6).toInt ≤ 1600 := hR_323.at0 ra 6 (by decide)
        unfold fModel_newName_37
        refine ⟨fun c_331 => ?_, fun c_331 => ?_⟩
        · have d_332 := iNe c_331
          unfold fModel_newName_51
          refine y_Model_must hok hw ra (by first | omega | (intro h; omega) | exact Or.inl rfl | exact Or.inr rfl) (by first | assumption | (intro h; have q := hq1 (by omega); omega)) hR_323 (fun I_348 L_349 hR_350 fr_351 u_334 u_335 u_336 u_337 u_338 u_339 u_340 u_341 u_342 u_343 u_344 u_345 u_346 u_347 => ⟨I_348, L_349, rfl, rfl, ?_⟩)
          have hf_352 : Fm (fun c => c = o) I0 I_348 := hf_325.call fr_351 (fun c hc => by first | exact hc | (dsimp only at hc ⊢; omega) | omega)
          have g_353 : (0 : Int) ≤ (I_348 o 7).toInt ∧ (I_348 o 7).toInt ≤ 1601 := hR_350.at0 ra 7 (by decide)
          have g_354 : (0 : Int) ≤ (I_348 o 3).toInt ∧ (I_348 o 3).toInt ≤ 1600 := hR_350.at0 ra 3 (by decide)
          have g_355 : (0 : Int) ≤ (I_348 o 35).toInt ∧ (I_348 o 35).toInt ≤ 1 := hR_350.at0 ra 35 (by decide)
          have g_356 : (0 : Int) ≤ (I_348 o 67).toInt ∧ (I_348 o 67).toInt ≤ 40 := hR_350.at0 ra 67 (by decide)
          have g_357 : (0 : Int) ≤ (I_348 o 6).toInt ∧ (I_348 o 6).toInt ≤ 1600 := hR_350.at0 ra 6 (by decide)
          have l_358 : (24948 : Int32).toInt = 24948 := rfl
          refine y_Model_isWord hok hw ra hR_350 (fun r_359 u_360 u_361 => ⟨r_359, I_348, L_349, rfl, rfl, ?_⟩)
          have b_362 : 0 ≤ r_359.toInt ∧ r_359.toInt ≤ 1 := u_360.rg
          refine y_Model_must hok hw ra (by first | omega | (intro h; omega) | exact Or.inl rfl | exact Or.inr rfl) (by first | assumption | (intro h; have q := hq1 (by omega); omega)) hR_350 (fun I_378 L_379 hR_380 fr_381 u_364 u_365 u_366 u_367 u_368 u_369 u_370 u_371 u_372 u_373 u_374 u_375 u_376 u_377 => ⟨I_378, L_379, rfl, rfl, ?_⟩)
          have hf_382 : Fm (fun c => c = o) I0 I_378 := hf_352.call fr_381 (fun c hc => by first | exact hc | (dsimp only at hc ⊢; omega) | omega)
          have g_383 : (0 : Int) ≤ (I_378 o 7).toInt ∧ (I_378 o 7).toInt ≤ 1601 := hR_380.at0 ra 7 (by decide)
          have g_384 : (0 : Int) ≤ (I_378 o 3).toInt ∧ (I_378 o 3).toInt ≤ 1600 := hR_380.at0 ra 3 (by decide)
          have g_385 : (0 : Int) ≤ (I_378 o 35).toInt ∧ (I_378 o 35).toInt ≤ 1 := hR_380.at0 ra 35 (by decide)
          have g_386 : (0 : Int) ≤ (I_378 o 67).toInt ∧ (I_378 o 67).toInt ≤ 40 := hR_380.at0 ra 67 (by decide)
          have g_387 : (0 : Int) ≤ (I_378 o 6).toInt ∧ (I_378 o 6).toInt ≤ 1600 := hR_380.at0 ra 6 (by decide)
          exact (hp _ _ _ hR_380 hf_382 (by first | omega | (intro h; omega) | exact Or.inl rfl | exact Or.inr rfl) (by first | omega | (intro h; omega) | exact Or.inl rfl | exact Or.inr rfl) (by first | assumption | (intro h; have q := hq1 (by omega); omega)) (by first | assumption | (intro h; omega) | (intro h; simp only [Im] at *; omega)) (by first | omega | (intro h; omega) | exact Or.inl rfl | exact Or.inr rfl) (by first | omega | (intro h; omega) | exact Or.inl rfl | exact Or.inr rfl) (by first | omega | (intro h; omega) | exact Or.inl rfl | exact Or.inr rfl) (by first | omega | (intro h; omega) | exact Or.inl rfl | exact Or.inr rfl) (by first | omega | (intro h; omega) | exact Or.inl rfl | exact Or.inr rfl) (by first | omega | (intro h; omega) | exact Or.inl rfl | exact Or.inr rfl) (by first | omega | (intro h; omega) | exact Or.inl rfl | exact Or.inr rfl) (by first | omega | (intro h; omega) | exact Or.inl rfl | exact Or.inr rfl) (by first | omega | (intro h; omega) | exact Or.inl rfl | exact Or.inr rfl))
        · have d_388 := iEq c_331
          unfold fModel_newName_51
          have l_389 : (1 : Int32).toInt = 1 := rfl
          refine y_Model_must hok hw ra (by first | omega | (intro h; omega) | exact Or.inl rfl | exact Or.inr rfl) (by first | assumption | (intro h; have q := hq1 (by omega); omega)) hR_323 (fun I_405 L_406 hR_407 fr_408 u_391 u_392 u_393 u_394 u_395 u_396 u_397 u_398 u_399 u_400 u_401 u_402 u_403 u_404 => ⟨I_405, L_406, rfl, rfl, ?_⟩)
          have hf_409 : Fm (fun c => c = o) I0 I_405 := hf_325.call fr_408 (fun c hc => by first | exact hc | (dsimp only at hc ⊢; omega) | omega)
          have g_410 : (0 : Int) ≤ (I_405 o 7).toInt ∧ (I_405 o 7).toInt ≤ 1601 := hR_407.at0 ra 7 (by decide)
          have g_411 : (0 : Int) ≤ (I_405 o 3).toInt ∧ (I_405 o 3).toInt ≤ 1600 := hR_407.at0 ra 3 (by decide)
          have g_412 : (0 : Int) ≤ (I_405 o 35).toInt ∧ (I_405 o 35).toInt ≤ 1 := hR_407.at0 ra 35 (by decide)
          have g_413 : (0 : Int) ≤ (I_405 o 67).toInt ∧ (I_405 o 67).toInt ≤ 40 := hR_407.at0 ra 67 (by decide)
          have g_414 : (0 : Int) ≤ (I_405 o 6).toInt ∧ (I_405 o 6).toInt ≤ 1600 := hR_407.at0 ra 6 (by decide)
          have l_415 : (24948 : Int32).toInt = 24948 := rfl
          refine y_Model_isWord hok hw ra hR_407 (fun r_416 u_417 u_418 => ⟨r_416, I_405, L_406, rfl, rfl, ?_⟩)
          have b_419 : 0 ≤ r_416.toInt ∧ r_416.toInt ≤ 1 := u_417.rg
          refine y_Model_must hok hw ra (by first | omega | (intro h; omega) | exact Or.inl rfl | exact Or.inr rfl) (by first | assumption | (intro h; have q := hq1 (by omega); omega)) hR_407 (fun I_435 L_436 hR_437 fr_438 u_421 u_422 u_423 u_424 u_425 u_426 u_427 u_428 u_429 u_430 u_431 u_432 u_433 u_434 => ⟨I_435, L_436, rfl, rfl, ?_⟩)
          have hf_439 : Fm (fun c => c = o) I0 I_435 := hf_409.call fr_438 (fun c hc => by first | exact hc | (dsimp only at hc ⊢; omega) | omega)
          have g_440 : (0 : Int) ≤ (I_435 o 7).toInt ∧ (I_435 o 7).toInt ≤ 1601 := hR_437.at0 ra 7 (by decide)
          have g_441 : (0 : Int) ≤ (I_435 o 3).toInt ∧ (I_435 o 3).toInt ≤ 1600 := hR_437.at0 ra 3 (by decide)
          have g_442 : (0 : Int) ≤ (I_435 o 35).toInt ∧ (I_435 o 35).toInt ≤ 1 := hR_437.at0 ra 35 (by decide)
          have g_443 : (0 : Int) ≤ (I_435 o 67).toInt ∧ (I_435 o 67).toInt ≤ 40 := hR_437.at0 ra 67 (by decide)
          have g_444 : (0 : Int) ≤ (I_435 o 6).toInt ∧ (I_435 o 6).toInt ≤ 1600 := hR_437.at0 ra 6 (by decide)
          exact (hp _ _ _ hR_437 hf_439 (by first | omega | (intro h; omega) | exact Or.inl rfl | exact Or.inr rfl) (by first | omega | (intro h; omega) | exact Or.inl rfl | exact Or.inr rfl) (by first | assumption | (intro h; have q := hq1 (by omega); omega)) (by first | assumption | (intro h; omega) | (intro h; simp only [Im] at *; omega)) (by first | omega | (intro h; omega) | exact Or.inl rfl | exact Or.inr rfl) (by first | omega | (intro h; omega) | exact Or.inl rfl | exact Or.inr rfl) (by first | omega | (intro h; omega) | exact Or.inl rfl | exact Or.inr rfl) (by first | omega | (intro h; omega) | exact Or.inl rfl | exact Or.inr rfl) (by first | omega | (intro h; omega) | exact Or.inl rfl | exact Or.inr rfl) (by first | omega | (intro h; omega) | exact Or.inl rfl | exact Or.inr rfl) (by first | omega | (intro h; omega) | exact Or.inl rfl | exact Or.inr rfl) (by first | omega | (intro h; omega) | exact Or.inl rfl | exact Or.inr rfl) (by first | omega | (intro h; omega) | exact Or.inl rfl | exact Or.inr rfl))
