/-! Safety of the reference, unit: by program (spec.py). -/
def wModel_unit : Nat → Bool := fun j => Nat.beq j 14 || Nat.beq j 15 || Nat.beq j 16 || Nat.beq j 17 || Nat.beq j 18 || Nat.beq j 19 || Nat.beq j 55 || Nat.beq j 56 || Nat.beq j 57 || Nat.beq j 58 || false
set_option maxHeartbeats 4000000 in
set_option maxRecDepth 20000 in
theorem yc_Model_unit {D : va_G} {cA : FieldType → ClassId} {b : Nat} {E : State → Prop} {R : qRg} {o n : Nat} {sh : Nat → qC} {Rf : Nat → Nat → Option Nat} {I0 : Nat → Nat → Int32} {L0 : Nat → Nat → Int64} {post : Option Value → qS → Prop} {f0 : Nat} (hok : q_ok (qGG D cA b E)) (hw : WfModel (qGG D cA b E) n sh Rf o) (ra : RAModel R o) (hz14 : R.2 14 = true) (hz15 : R.2 15 = true) (hz16 : R.2 16 = true) (hz17 : R.2 17 = true) (hz18 : R.2 18 = true) (hz19 : R.2 19 = true) (hz55 : R.2 55 = true) (hz56 : R.2 56 = true) (hz57 : R.2 57 = true) (hz58 : R.2 58 = true) (hZ : Fz R I0 o wModel_unit) (hR0 : RI R I0) (hq0 : (I0 o 7).toInt ≤ (I0 o 3).toInt) (hq1 : (I0 o 4).toInt = 0) (hq2 : EX 0 0 0 f0 1 I0 o) (hq3 : MTd I0 o) (hq4 : MPo I0 o) (hq5 : MTk I0 o) (hR : RI R I0) (hp : ∀ (r : Int32) (I' : Nat → Nat → Int32) (L' : Nat → Nat → Int64), RI R I' → Fm (fun c => c = o ∨ (o + 30 ≤ c ∧ c < o + 34)) I0 I' → (Bz r) → ((I' o 7).toInt ≤ (I' o 3).toInt) → ((I0 o 7).toInt ≤ (I' o 7).toInt) → ((I0 o 4).toInt ≤ (I' o 4).toInt) → (7 * (I0 o 7).toInt - (I0 o 8).toInt + (I0 o 4).toInt ≤ 7 * (I' o 7).toInt - (I' o 8).toInt + (I' o 4).toInt) → (81 * (7 * (I0 o 7).toInt - (I0 o 8).toInt + (I0 o 4).toInt) - (I0 o 48).toInt < 81 * (7 * (I' o 7).toInt - (I' o 8).toInt + (I' o 4).toInt) - (I' o 48).toInt) → (Im ((I' o 4).toInt = 0) (EX 0 0 0 f0 r.toInt I' o)) → (MTd I' o) → (MPo I' o) → (MTk I' o) → post (some (.int r)) (n, sh, Rf, I', L')) : Ev (qGG D cA b E) mModel_unit 3 (0, 0) 0 (lv_args 0 [.ref o]) [] (n, sh, Rf, I0, L0) post := by
  have hf : Fm (fun c => c = o ∨ (o + 30 ≤ c ∧ c < o + 34)) I0 I0 := Fm.rf
  have g_1 : (0 : Int) ≤ (I0 o 3).toInt ∧ (I0 o 3).toInt ≤ 1600 := hR.at0 ra 3 (by decide)
  have g_2 : (0 : Int) ≤ (I0 o 4).toInt ∧ (I0 o 4).toInt ≤ 5 := hR.at0 ra 4 (by decide)
  have g_3 : (0 : Int) ≤ (I0 o 6).toInt ∧ (I0 o 6).toInt ≤ 1600 := hR.at0 ra 6 (by decide)
  have g_4 : (0 : Int) ≤ (I0 o 7).toInt ∧ (I0 o 7).toInt ≤ 1601 := hR.at0 ra 7 (by decide)
  have g_5 : (0 : Int) ≤ (I0 o 8).toInt ∧ (I0 o 8).toInt ≤ 6 := hR.at0 ra 8 (by decide)
  have g_6 : (0 : Int) ≤ (I0 o 44).toInt ∧ (I0 o 44).toInt ≤ 4 := hR.at0 ra 44 (by decide)
  have g_7 : (0 : Int) ≤ (I0 o 45).toInt ∧ (I0 o 45).toInt ≤ 700 := hR.at0 ra 45 (by decide)
  have g_8 : (0 : Int) ≤ (I0 o 47).toInt ∧ (I0 o 47).toInt ≤ 7 := hR.at0 ra 47 (by decide)
  have g_9 : (0 : Int) ≤ (I0 o 48).toInt ∧ (I0 o 48).toInt ≤ 80 := hR.at0 ra 48 (by decide)
  refine sModel_unit_0 o n sh Rf I0 L0 post  hok hw ?_
  unfold fModel_unit_0
  have ps := hq2.pos
  have lw := hq2.low (by omega)
  have g_10 : (0 : Int) ≤ (I0 o 48).toInt ∧ (I0 o 48).toInt ≤ 80 := hR.at0 ra 48 (by decide)
  have l_11 : (1 : Int32).toInt = 1 := rfl
  have a_12 : ((I0 o 48) - 1).toInt = (I0 o 48).toInt - (1 : Int32).toInt := tSub (by omega) (by omega)
  refine ⟨tIn (by omega) (by omega), ?_⟩
  have g_13 : (0 : Int) ≤ (I0 (o + 32) (((I0 o 48) - 1) : Int32).toNatClampNeg).toInt ∧ (I0 (o + 32) (((I0 o 48) - 1) : Int32).toNatClampNeg).toInt ≤ 8 := hR.at ra 32 _ (by decide)
  have l_14 : (3 : Int32).toInt = 3 := rfl
  refine ⟨fun c_15 => ?_, fun c_15 => ?_⟩
  · have d_16 := iLe c_15
    unfold fModel_unit_31
    unfold fModel_unit_36
    have l_17 : (0 : Int32).toInt = 0 := rfl
    refine ⟨fun c_18 => ?_, fun c_18 => ?_⟩
    · have d_19 := iEq c_18
      exfalso; omega
    · have d_20 := iNe c_18
      have l_21 : (7237492 : Int32).toInt = 7237492 := rfl
      refine y_Model_isWord hok hw ra hR (fun r_22 u_23 u_24 => ⟨r_22, I0, L0, rfl, rfl, ?_⟩)
      have b_25 : 0 ≤ r_22.toInt ∧ r_22.toInt ≤ 1 := u_23.rg
      refine ⟨fun c_26 => ?_, fun c_26 => ?_⟩
      · have d_27 := iEq c_26
        unfold fModel_unit_96
        refine y_Model_wordHere hok hw ra hz14 hz15 hR (fun r_28 I_32 L_33 hR_34 fr_35 kp_36 u_29 u_30 u_31 => ⟨r_28, I_32, L_33, rfl, rfl, ?_⟩)
        have hf_37 : Fm (fun c => c = o ∨ (o + 30 ≤ c ∧ c < o + 34)) I0 I_32 := hf.call fr_35 (fun c hc => by first | exact hc | (dsimp only at hc ⊢; omega) | omega)
        have t_38 : (I_32 o 3).toInt = (I0 o 3).toInt := by rw [kp_36 3 rfl]
        have g_39 : (0 : Int) ≤ (I_32 o 4).toInt ∧ (I_32 o 4).toInt ≤ 5 := hR_34.at0 ra 4 (by decide)
        have t_40 : (I_32 o 6).toInt = (I0 o 6).toInt := by rw [kp_36 6 rfl]
        have t_41 : (I_32 o 7).toInt = (I0 o 7).toInt := by rw [kp_36 7 rfl]
        have t_42 : (I_32 o 8).toInt = (I0 o 8).toInt := by rw [kp_36 8 rfl]
        have t_43 : (I_32 o 9).toInt = (I0 o 9).toInt := by rw [kp_36 9 rfl]
        have t_44 : (I_32 o 44).toInt = (I0 o 44).toInt := by rw [kp_36 44 rfl]
        have t_45 : (I_32 o 45).toInt = (I0 o 45).toInt := by rw [kp_36 45 rfl]
        have t_46 : (I_32 o 47).toInt = (I0 o 47).toInt := by rw [kp_36 47 rfl]
        have t_47 : (I_32 o 48).toInt = (I0 o 48).toInt := by rw [kp_36 48 rfl]
        have k_48 : EX 0 0 0 f0 1 I_32 o := hq2.fr (fr_35 _ (by first | omega | (dsimp only; omega))) (fr_35 _ (by first | omega | (dsimp only; omega))) (fr_35 _ (by first | omega | (dsimp only; omega))) (fr_35 _ (by first | omega | (dsimp only; omega))) (fr_35 _ (by first | omega | (dsimp only; omega))) (kp_36 3 rfl) (kp_36 6 rfl) (kp_36 44 rfl) (kp_36 45 rfl) (kp_36 47 rfl) (kp_36 48 rfl)
        have k_49 : MTd I_32 o := hq3.fr (fr_35 _ (by first | omega | (dsimp only; omega))) (fr_35 _ (by first | omega | (dsimp only; omega))) (fr_35 _ (by first | omega | (dsimp only; omega)))
        have k_50 : MPo I_32 o := hq4.fr (kp_36 8 rfl) (kp_36 9 rfl)
        have k_51 : MTk I_32 o := hq5.fr (kp_36 6 rfl) (kp_36 7 rfl) (kp_36 8 rfl)
        refine y_Model_isGood hok hw ra hR_34 (fun r_52 u_53 u_54 u_55 => ⟨r_52, I_32, L_33, rfl, rfl, ?_⟩)
        have b_56 : 0 ≤ r_52.toInt ∧ r_52.toInt ≤ 1 := u_53.rg
        refine ⟨fun c_57 => ?_, fun c_57 => ?_⟩
        · have d_58 := iNe c_57
          have i_59 := u_54 (by omega)
          refine ⟨fun c_60 => ?_, fun c_60 => ?_⟩
          · have d_61 := iNe c_60
            have i_62 := u_29 (by omega)
            have i_63 := u_30 (by omega)
            unfold fModel_unit_131
            have g_64 : (0 : Int) ≤ (I_32 o 46).toInt ∧ (I_32 o 46).toInt ≤ 100 := hR_34.at0 ra 46 (by decide)
            have l_65 : (100 : Int32).toInt = 100 := rfl
            refine ⟨fun c_66 => ?_, fun c_66 => ?_⟩
            · have d_67 := iNe c_66
              refine y_Model_isGood hok hw ra hR_34 (fun r_68 u_69 u_70 u_71 => ⟨r_68, I_32, L_33, rfl, rfl, ?_⟩)
              have b_72 : 0 ≤ r_68.toInt ∧ r_68.toInt ≤ 1 := u_69.rg
              refine ⟨fun c_73 => ?_, fun c_73 => ?_⟩
              · have d_74 := iNe c_73
                have i_75 := u_70 (by omega)
                have g_76 : (0 : Int) ≤ (I_32 o 46).toInt ∧ (I_32 o 46).toInt ≤ 100 := hR_34.at0 ra 46 (by decide)
                have a_77 : ((I_32 o 46) + 1).toInt = (I_32 o 46).toInt + (1 : Int32).toInt := tAdd (by omega) (by omega)
                refine fun I_78 e_79 => ?_
                have hR_80 : RI R I_78 := hR_34.up0 (k := 46) ra (by decide) (Or.inr hz56) e_79 (show (0 : Int) ≤ ((I_32 o 46) + 1).toInt by omega) (show ((I_32 o 46) + 1).toInt ≤ (100 : Int) by omega)
                have hf_81 : Fm (fun c => c = o ∨ (o + 30 ≤ c ∧ c < o + 34)) I0 I_78 := hf_37.set (by first | rfl | omega | (dsimp only; omega)) e_79
                have t_82 : (I_78 o 3).toInt = (I_32 o 3).toInt := by rw [← e_79, q_u_k (by decide)]
                have t_83 : (I_78 o 4).toInt = (I_32 o 4).toInt := by rw [← e_79, q_u_k (by decide)]
                have t_84 : (I_78 o 6).toInt = (I_32 o 6).toInt := by rw [← e_79, q_u_k (by decide)]
                have t_85 : (I_78 o 7).toInt = (I_32 o 7).toInt := by rw [← e_79, q_u_k (by decide)]
                have t_86 : (I_78 o 8).toInt = (I_32 o 8).toInt := by rw [← e_79, q_u_k (by decide)]
                have t_87 : (I_78 o 9).toInt = (I_32 o 9).toInt := by rw [← e_79, q_u_k (by decide)]
                have t_88 : (I_78 o 44).toInt = (I_32 o 44).toInt := by rw [← e_79, q_u_k (by decide)]
                have t_89 : (I_78 o 45).toInt = (I_32 o 45).toInt := by rw [← e_79, q_u_k (by decide)]
                have t_90 : (I_78 o 47).toInt = (I_32 o 47).toInt := by rw [← e_79, q_u_k (by decide)]
                have t_91 : (I_78 o 48).toInt = (I_32 o 48).toInt := by rw [← e_79, q_u_k (by decide)]
                have t_92 : (I_78 o 46).toInt = ((I_32 o 46) + 1).toInt := by rw [← e_79, q_u_at]
                have k_93 : EX 0 0 0 f0 1 I_78 o := k_48.fr (by rw [← e_79]; exact q_u_ne (by omega)) (by rw [← e_79]; exact q_u_ne (by omega)) (by rw [← e_79]; exact q_u_ne (by omega)) (by rw [← e_79]; exact q_u_ne (by omega)) (by rw [← e_79]; exact q_u_ne (by omega)) (by rw [← e_79, q_u_k (by decide)]) (by rw [← e_79, q_u_k (by decide)]) (by rw [← e_79, q_u_k (by decide)]) (by rw [← e_79, q_u_k (by decide)]) (by rw [← e_79, q_u_k (by decide)]) (by rw [← e_79, q_u_k (by decide)])
                have k_94 : MTd I_78 o := k_49.fr (by rw [← e_79]; exact q_u_ne (by omega)) (by rw [← e_79]; exact q_u_ne (by omega)) (by rw [← e_79]; exact q_u_ne (by omega))
                have k_95 : MPo I_78 o := k_50.fr (by rw [← e_79, q_u_k (by decide)]) (by rw [← e_79, q_u_k (by decide)])
                have k_96 : MTk I_78 o := k_51.fr (by rw [← e_79, q_u_k (by decide)]) (by rw [← e_79, q_u_k (by decide)]) (by rw [← e_79, q_u_k (by decide)])
                have l_97 : (40 : Int32).toInt = 40 := rfl
                refine y_Model_is hok hw ra hR_80 (fun r_98 u_99 u_100 u_101 => ⟨r_98, I_78, L_33, rfl, rfl, ?_⟩)
                have b_102 : 0 ≤ r_98.toInt ∧ r_98.toInt ≤ 1 := u_99.rg
                refine ⟨fun c_103 => ?_, fun c_103 => ?_⟩
                · have d_104 := iEq c_103
                  have cd := k_93.cod
                  have tk := k_96.2 (by omega)
                  refine ⟨fun c_105 => ?_, fun c_105 => ?_⟩
                  · have d_106 := iNe c_105
                    have i_107 := u_29 (by omega)
                    have i_108 := u_30 (by omega)
                    unfold fModel_unit_228
                    refine ⟨fun c_109 => ?_, fun c_109 => ?_⟩
                    · have d_110 := iNe c_109
                      have i_111 := u_29 (by omega)
                      have i_112 := u_30 (by omega)
                      refine y_Model_step hok hw ra hz55 (by first | omega | (intro h; omega) | exact Or.inl rfl | exact Or.inr rfl) (by first | omega | (intro h; omega) | exact Or.inl rfl | exact Or.inr rfl) hR_80 (fun I_116 L_117 hR_118 fr_119 kp_120 u_114 u_115 => ⟨I_116, L_117, rfl, rfl, ?_⟩)
                      have hf_121 : Fm (fun c => c = o ∨ (o + 30 ≤ c ∧ c < o + 34)) I0 I_116 := hf_81.call fr_119 (fun c hc => by first | exact hc | (dsimp only at hc ⊢; omega) | omega)
                      have t_122 : (I_116 o 3).toInt = (I_78 o 3).toInt := by rw [kp_120 3 rfl]
                      have t_123 : (I_116 o 4).toInt = (I_78 o 4).toInt := by rw [kp_120 4 rfl]
                      have t_124 : (I_116 o 6).toInt = (I_78 o 6).toInt := by rw [kp_120 6 rfl]
                      have t_125 : (I_116 o 7).toInt = (I_78 o 7).toInt := by rw [kp_120 7 rfl]
                      have t_126 : (I_116 o 8).toInt = (I_78 o 8).toInt := by rw [kp_120 8 rfl]
                      have t_127 : (I_116 o 9).toInt = (I_78 o 9).toInt := by rw [kp_120 9 rfl]
                      have t_128 : (I_116 o 44).toInt = (I_78 o 44).toInt := by rw [kp_120 44 rfl]
                      have g_129 : (0 : Int) ≤ (I_116 o 45).toInt ∧ (I_116 o 45).toInt ≤ 700 := hR_118.at0 ra 45 (by decide)
                      have t_130 : (I_116 o 47).toInt = (I_78 o 47).toInt := by rw [kp_120 47 rfl]
                      have t_131 : (I_116 o 48).toInt = (I_78 o 48).toInt := by rw [kp_120 48 rfl]
                      have t_132 : (I_116 o 46).toInt = (I_78 o 46).toInt := by rw [kp_120 46 rfl]
                      have k_133 : MPo I_116 o := k_95.fr (kp_120 8 rfl) (kp_120 9 rfl)
                      have k_134 : MTk I_116 o := k_96.fr (kp_120 6 rfl) (kp_120 7 rfl) (kp_120 8 rfl)
                      have tk := k_134.2 (by omega)
                      have k_135 : EX 0 0 1 f0 0 I_116 o := by exact EX.step1 k_93 (by first | exact u_29 (by omega) | (unfold isT; decide)) (by omega) (fr_119 _ (by first | omega | (dsimp only; omega))) (fr_119 _ (by first | omega | (dsimp only; omega))) u_114 (fr_119 _ (by first | omega | (dsimp only; omega))) (fr_119 _ (by first | omega | (dsimp only; omega))) (kp_120 3 rfl) (kp_120 6 rfl) (kp_120 44 rfl) u_115 (kp_120 47 rfl) (kp_120 48 rfl)
                      have k_136 : MTd I_116 o := by exact MTd.step k_94 (fr_119 _ (by first | omega | (dsimp only; omega))) (fr_119 _ (by first | omega | (dsimp only; omega))) u_114 (by omega)
                      refine y_Model_next hok hw ra hz16 hz17 hz18 hz19 (by first | omega | (intro h; omega) | exact Or.inl rfl | exact Or.inr rfl) hR_118 (fun I_146 L_147 hR_148 fr_149 kp_150 u_138 u_139 u_140 u_141 u_142 u_143 u_144 u_145 => ⟨I_146, L_147, rfl, rfl, ?_⟩)
                      have hf_151 : Fm (fun c => c = o ∨ (o + 30 ≤ c ∧ c < o + 34)) I0 I_146 := hf_121.call fr_149 (fun c hc => by first | exact hc | (dsimp only at hc ⊢; omega) | omega)
                      have t_152 : (I_146 o 3).toInt = (I_116 o 3).toInt := by rw [kp_150 3 rfl]
                      have t_153 : (I_146 o 4).toInt = (I_116 o 4).toInt := by rw [kp_150 4 rfl]
                      have g_154 : (0 : Int) ≤ (I_146 o 6).toInt ∧ (I_146 o 6).toInt ≤ 1600 := hR_148.at0 ra 6 (by decide)
                      have g_155 : (0 : Int) ≤ (I_146 o 7).toInt ∧ (I_146 o 7).toInt ≤ 1601 := hR_148.at0 ra 7 (by decide)
                      have g_156 : (0 : Int) ≤ (I_146 o 8).toInt ∧ (I_146 o 8).toInt ≤ 6 := hR_148.at0 ra 8 (by decide)
                      have t_157 : (I_146 o 44).toInt = (I_116 o 44).toInt := by rw [kp_150 44 rfl]
                      have t_158 : (I_146 o 45).toInt = (I_116 o 45).toInt := by rw [kp_150 45 rfl]
                      have t_159 : (I_146 o 47).toInt = (I_116 o 47).toInt := by rw [kp_150 47 rfl]
                      have t_160 : (I_146 o 48).toInt = (I_116 o 48).toInt := by rw [kp_150 48 rfl]
                      have t_161 : (I_146 o 46).toInt = (I_116 o 46).toInt := by rw [kp_150 46 rfl]
                      have k_162 : MTd I_146 o := k_136.fr (fr_149 _ (by first | omega | (dsimp only; omega))) (fr_149 _ (by first | omega | (dsimp only; omega))) (fr_149 _ (by first | omega | (dsimp only; omega)))
                      have ms := u_141 (by omega)
                      have k_163 : EX 0 0 0 f0 0 I_146 o := by exact EX.nx k_135 (fr_149 _ (by first | omega | (dsimp only; omega))) (fr_149 _ (by first | omega | (dsimp only; omega))) (fr_149 _ (by first | omega | (dsimp only; omega))) (fr_149 _ (by first | omega | (dsimp only; omega))) (fr_149 _ (by first | omega | (dsimp only; omega))) (kp_150 3 rfl) (kp_150 44 rfl) (kp_150 45 rfl) (kp_150 47 rfl) (kp_150 48 rfl) (by omega) (by omega)
                      exact (hp _ _ _ hR_148 hf_151 (Or.inl rfl) (by first | omega | (intro h; omega) | exact Or.inl rfl | exact Or.inr rfl) (by first | omega | (intro h; omega) | exact Or.inl rfl | exact Or.inr rfl) (by first | omega | (intro h; omega) | exact Or.inl rfl | exact Or.inr rfl) (by first | omega | (intro h; omega) | exact Or.inl rfl | exact Or.inr rfl) (by first | omega | (intro h; omega) | exact Or.inl rfl | exact Or.inr rfl) (by first | (intro h; exfalso; omega) | exact fun _ => (False.elim (by omega)) | exact fun _ => k_163) k_162 u_144 u_145)
                    · have d_164 := iEq c_109
                      refine y_Model_step hok hw ra hz55 (by first | omega | (intro h; omega) | exact Or.inl rfl | exact Or.inr rfl) (by first | omega | (intro h; omega) | exact Or.inl rfl | exact Or.inr rfl) hR_80 (fun I_168 L_169 hR_170 fr_171 kp_172 u_166 u_167 => ⟨I_168, L_169, rfl, rfl, ?_⟩)
                      have hf_173 : Fm (fun c => c = o ∨ (o + 30 ≤ c ∧ c < o + 34)) I0 I_168 := hf_81.call fr_171 (fun c hc => by first | exact hc | (dsimp only at hc ⊢; omega) | omega)
                      have t_174 : (I_168 o 3).toInt = (I_78 o 3).toInt := by rw [kp_172 3 rfl]
                      have t_175 : (I_168 o 4).toInt = (I_78 o 4).toInt := by rw [kp_172 4 rfl]
                      have t_176 : (I_168 o 6).toInt = (I_78 o 6).toInt := by rw [kp_172 6 rfl]
                      have t_177 : (I_168 o 7).toInt = (I_78 o 7).toInt := by rw [kp_172 7 rfl]
                      have t_178 : (I_168 o 8).toInt = (I_78 o 8).toInt := by rw [kp_172 8 rfl]
                      have t_179 : (I_168 o 9).toInt = (I_78 o 9).toInt := by rw [kp_172 9 rfl]
                      have t_180 : (I_168 o 44).toInt = (I_78 o 44).toInt := by rw [kp_172 44 rfl]
                      have g_181 : (0 : Int) ≤ (I_168 o 45).toInt ∧ (I_168 o 45).toInt ≤ 700 := hR_170.at0 ra 45 (by decide)
                      have t_182 : (I_168 o 47).toInt = (I_78 o 47).toInt := by rw [kp_172 47 rfl]
                      have t_183 : (I_168 o 48).toInt = (I_78 o 48).toInt := by rw [kp_172 48 rfl]
                      have t_184 : (I_168 o 46).toInt = (I_78 o 46).toInt := by rw [kp_172 46 rfl]
                      have k_185 : MPo I_168 o := k_95.fr (kp_172 8 rfl) (kp_172 9 rfl)
                      have k_186 : MTk I_168 o := k_96.fr (kp_172 6 rfl) (kp_172 7 rfl) (kp_172 8 rfl)
                      have tk := k_186.2 (by omega)
                      have k_187 : EX 0 0 1 f0 0 I_168 o := by exact EX.step1 k_93 (by first | exact u_29 (by omega) | (unfold isT; decide)) (by omega) (fr_171 _ (by first | omega | (dsimp only; omega))) (fr_171 _ (by first | omega | (dsimp only; omega))) u_166 (fr_171 _ (by first | omega | (dsimp only; omega))) (fr_171 _ (by first | omega | (dsimp only; omega))) (kp_172 3 rfl) (kp_172 6 rfl) (kp_172 44 rfl) u_167 (kp_172 47 rfl) (kp_172 48 rfl)
                      have k_188 : MTd I_168 o := by exact MTd.step k_94 (fr_171 _ (by first | omega | (dsimp only; omega))) (fr_171 _ (by first | omega | (dsimp only; omega))) u_166 (by omega)
                      refine y_Model_next hok hw ra hz16 hz17 hz18 hz19 (by first | omega | (intro h; omega) | exact Or.inl rfl | exact Or.inr rfl) hR_170 (fun I_198 L_199 hR_200 fr_201 kp_202 u_190 u_191 u_192 u_193 u_194 u_195 u_196 u_197 => ⟨I_198, L_199, rfl, rfl, ?_⟩)
                      have hf_203 : Fm (fun c => c = o ∨ (o + 30 ≤ c ∧ c < o + 34)) I0 I_198 := hf_173.call fr_201 (fun c hc => by first | exact hc | (dsimp only at hc ⊢; omega) | omega)
                      have t_204 : (I_198 o 3).toInt = (I_168 o 3).toInt := by rw [kp_202 3 rfl]
                      have t_205 : (I_198 o 4).toInt = (I_168 o 4).toInt := by rw [kp_202 4 rfl]
                      have g_206 : (0 : Int) ≤ (I_198 o 6).toInt ∧ (I_198 o 6).toInt ≤ 1600 := hR_200.at0 ra 6 (by decide)
                      have g_207 : (0 : Int) ≤ (I_198 o 7).toInt ∧ (I_198 o 7).toInt ≤ 1601 := hR_200.at0 ra 7 (by decide)
                      have g_208 : (0 : Int) ≤ (I_198 o 8).toInt ∧ (I_198 o 8).toInt ≤ 6 := hR_200.at0 ra 8 (by decide)
                      have t_209 : (I_198 o 44).toInt = (I_168 o 44).toInt := by rw [kp_202 44 rfl]
                      have t_210 : (I_198 o 45).toInt = (I_168 o 45).toInt := by rw [kp_202 45 rfl]
                      have t_211 : (I_198 o 47).toInt = (I_168 o 47).toInt := by rw [kp_202 47 rfl]
                      have t_212 : (I_198 o 48).toInt = (I_168 o 48).toInt := by rw [kp_202 48 rfl]
                      have t_213 : (I_198 o 46).toInt = (I_168 o 46).toInt := by rw [kp_202 46 rfl]
                      have k_214 : MTd I_198 o := k_188.fr (fr_201 _ (by first | omega | (dsimp only; omega))) (fr_201 _ (by first | omega | (dsimp only; omega))) (fr_201 _ (by first | omega | (dsimp only; omega)))
                      have ms := u_193 (by omega)
                      have k_215 : EX 0 0 0 f0 0 I_198 o := by exact EX.nx k_187 (fr_201 _ (by first | omega | (dsimp only; omega))) (fr_201 _ (by first | omega | (dsimp only; omega))) (fr_201 _ (by first | omega | (dsimp only; omega))) (fr_201 _ (by first | omega | (dsimp only; omega))) (fr_201 _ (by first | omega | (dsimp only; omega))) (kp_202 3 rfl) (kp_202 44 rfl) (kp_202 45 rfl) (kp_202 47 rfl) (kp_202 48 rfl) (by omega) (by omega)
                      exact (hp _ _ _ hR_200 hf_203 (Or.inl rfl) (by first | omega | (intro h; omega) | exact Or.inl rfl | exact Or.inr rfl) (by first | omega | (intro h; omega) | exact Or.inl rfl | exact Or.inr rfl) (by first | omega | (intro h; omega) | exact Or.inl rfl | exact Or.inr rfl) (by first | omega | (intro h; omega) | exact Or.inl rfl | exact Or.inr rfl) (by first | omega | (intro h; omega) | exact Or.inl rfl | exact Or.inr rfl) (by first | (intro h; exfalso; omega) | exact fun _ => (False.elim (by omega)) | exact fun _ => k_215) k_214 u_196 u_197)
                  · have d_216 := iEq c_105
                    unfold fModel_unit_228
                    have l_217 : (78 : Int32).toInt = 78 := rfl
                    refine ⟨fun c_218 => ?_, fun c_218 => ?_⟩
                    · have d_219 := iNe c_218
                      have i_220 := u_29 (by omega)
                      have i_221 := u_30 (by omega)
                      exfalso; omega
                    · have d_222 := iEq c_218
                      refine y_Model_step hok hw ra hz55 (by first | omega | (intro h; omega) | exact Or.inl rfl | exact Or.inr rfl) (by first | omega | (intro h; omega) | exact Or.inl rfl | exact Or.inr rfl) hR_80 (fun I_226 L_227 hR_228 fr_229 kp_230 u_224 u_225 => ⟨I_226, L_227, rfl, rfl, ?_⟩)
                      have hf_231 : Fm (fun c => c = o ∨ (o + 30 ≤ c ∧ c < o + 34)) I0 I_226 := hf_81.call fr_229 (fun c hc => by first | exact hc | (dsimp only at hc ⊢; omega) | omega)
                      have t_232 : (I_226 o 3).toInt = (I_78 o 3).toInt := by rw [kp_230 3 rfl]
                      have t_233 : (I_226 o 4).toInt = (I_78 o 4).toInt := by rw [kp_230 4 rfl]
                      have t_234 : (I_226 o 6).toInt = (I_78 o 6).toInt := by rw [kp_230 6 rfl]
                      have t_235 : (I_226 o 7).toInt = (I_78 o 7).toInt := by rw [kp_230 7 rfl]
                      have t_236 : (I_226 o 8).toInt = (I_78 o 8).toInt := by rw [kp_230 8 rfl]
                      have t_237 : (I_226 o 9).toInt = (I_78 o 9).toInt := by rw [kp_230 9 rfl]
                      have t_238 : (I_226 o 44).toInt = (I_78 o 44).toInt := by rw [kp_230 44 rfl]
                      have g_239 : (0 : Int) ≤ (I_226 o 45).toInt ∧ (I_226 o 45).toInt ≤ 700 := hR_228.at0 ra 45 (by decide)
                      have t_240 : (I_226 o 47).toInt = (I_78 o 47).toInt := by rw [kp_230 47 rfl]
                      have t_241 : (I_226 o 48).toInt = (I_78 o 48).toInt := by rw [kp_230 48 rfl]
                      have t_242 : (I_226 o 46).toInt = (I_78 o 46).toInt := by rw [kp_230 46 rfl]
                      have k_243 : MPo I_226 o := k_95.fr (kp_230 8 rfl) (kp_230 9 rfl)
                      have k_244 : MTk I_226 o := k_96.fr (kp_230 6 rfl) (kp_230 7 rfl) (kp_230 8 rfl)
                      have tk := k_244.2 (by omega)
                      have k_245 : EX 0 0 1 f0 0 I_226 o := by exact EX.step1 k_93 (by first | exact u_29 (by omega) | (unfold isT; decide)) (by omega) (fr_229 _ (by first | omega | (dsimp only; omega))) (fr_229 _ (by first | omega | (dsimp only; omega))) u_224 (fr_229 _ (by first | omega | (dsimp only; omega))) (fr_229 _ (by first | omega | (dsimp only; omega))) (kp_230 3 rfl) (kp_230 6 rfl) (kp_230 44 rfl) u_225 (kp_230 47 rfl) (kp_230 48 rfl)
                      have k_246 : MTd I_226 o := by exact MTd.step k_94 (fr_229 _ (by first | omega | (dsimp only; omega))) (fr_229 _ (by first | omega | (dsimp only; omega))) u_224 (by omega)
                      refine y_Model_next hok hw ra hz16 hz17 hz18 hz19 (by first | omega | (intro h; omega) | exact Or.inl rfl | exact Or.inr rfl) hR_228 (fun I_256 L_257 hR_258 fr_259 kp_260 u_248 u_249 u_250 u_251 u_252 u_253 u_254 u_255 => ⟨I_256, L_257, rfl, rfl, ?_⟩)
                      have hf_261 : Fm (fun c => c = o ∨ (o + 30 ≤ c ∧ c < o + 34)) I0 I_256 := hf_231.call fr_259 (fun c hc => by first | exact hc | (dsimp only at hc ⊢; omega) | omega)
                      have t_262 : (I_256 o 3).toInt = (I_226 o 3).toInt := by rw [kp_260 3 rfl]
                      have t_263 : (I_256 o 4).toInt = (I_226 o 4).toInt := by rw [kp_260 4 rfl]
                      have g_264 : (0 : Int) ≤ (I_256 o 6).toInt ∧ (I_256 o 6).toInt ≤ 1600 := hR_258.at0 ra 6 (by decide)
                      have g_265 : (0 : Int) ≤ (I_256 o 7).toInt ∧ (I_256 o 7).toInt ≤ 1601 := hR_258.at0 ra 7 (by decide)
                      have g_266 : (0 : Int) ≤ (I_256 o 8).toInt ∧ (I_256 o 8).toInt ≤ 6 := hR_258.at0 ra 8 (by decide)
                      have t_267 : (I_256 o 44).toInt = (I_226 o 44).toInt := by rw [kp_260 44 rfl]
                      have t_268 : (I_256 o 45).toInt = (I_226 o 45).toInt := by rw [kp_260 45 rfl]
                      have t_269 : (I_256 o 47).toInt = (I_226 o 47).toInt := by rw [kp_260 47 rfl]
                      have t_270 : (I_256 o 48).toInt = (I_226 o 48).toInt := by rw [kp_260 48 rfl]
                      have t_271 : (I_256 o 46).toInt = (I_226 o 46).toInt := by rw [kp_260 46 rfl]
                      have k_272 : MTd I_256 o := k_246.fr (fr_259 _ (by first | omega | (dsimp only; omega))) (fr_259 _ (by first | omega | (dsimp only; omega))) (fr_259 _ (by first | omega | (dsimp only; omega)))
                      have ms := u_251 (by omega)
                      have k_273 : EX 0 0 0 f0 0 I_256 o := by exact EX.nx k_245 (fr_259 _ (by first | omega | (dsimp only; omega))) (fr_259 _ (by first | omega | (dsimp only; omega))) (fr_259 _ (by first | omega | (dsimp only; omega))) (fr_259 _ (by first | omega | (dsimp only; omega))) (fr_259 _ (by first | omega | (dsimp only; omega))) (kp_260 3 rfl) (kp_260 44 rfl) (kp_260 45 rfl) (kp_260 47 rfl) (kp_260 48 rfl) (by omega) (by omega)
                      exact (hp _ _ _ hR_258 hf_261 (Or.inl rfl) (by first | omega | (intro h; omega) | exact Or.inl rfl | exact Or.inr rfl) (by first | omega | (intro h; omega) | exact Or.inl rfl | exact Or.inr rfl) (by first | omega | (intro h; omega) | exact Or.inl rfl | exact Or.inr rfl) (by first | omega | (intro h; omega) | exact Or.inl rfl | exact Or.inr rfl) (by first | omega | (intro h; omega) | exact Or.inl rfl | exact Or.inr rfl) (by first | (intro h; exfalso; omega) | exact fun _ => (False.elim (by omega)) | exact fun _ => k_273) k_272 u_254 u_255)
                · have d_274 := iNe c_103
                  have i_275 := u_100 (by omega)
                  have i_276 := u_101 (by omega)
                  have g_277 : (0 : Int) ≤ (I_78 o 47).toInt ∧ (I_78 o 47).toInt ≤ 7 := hR_80.at0 ra 47 (by decide)
                  have l_278 : (7 : Int32).toInt = 7 := rfl
                  refine ⟨fun c_279 => ?_, fun c_279 => ?_⟩
                  · have d_280 := iNe c_279
                    refine y_Model_isGood hok hw ra hR_80 (fun r_281 u_282 u_283 u_284 => ⟨r_281, I_78, L_33, rfl, rfl, ?_⟩)
                    have b_285 : 0 ≤ r_281.toInt ∧ r_281.toInt ≤ 1 := u_282.rg
                    refine ⟨fun c_286 => ?_, fun c_286 => ?_⟩
                    · have d_287 := iNe c_286
                      have i_288 := u_283 (by omega)
                      refine y_Model_pile hok hw ra hz58 (by first | omega | (intro h; omega) | exact Or.inl rfl | exact Or.inr rfl) (by first | omega | (intro h; omega) | exact Or.inl rfl | exact Or.inr rfl) hR_80 (fun I_293 L_294 hR_295 fr_296 kp_297 u_290 u_291 u_292 => ⟨I_293, L_294, rfl, rfl, ?_⟩)
                      have hf_298 : Fm (fun c => c = o ∨ (o + 30 ≤ c ∧ c < o + 34)) I0 I_293 := hf_81.call fr_296 (fun c hc => by first | exact hc | (dsimp only at hc ⊢; omega) | omega)
                      have t_299 : (I_293 o 3).toInt = (I_78 o 3).toInt := by rw [kp_297 3 rfl]
                      have t_300 : (I_293 o 4).toInt = (I_78 o 4).toInt := by rw [kp_297 4 rfl]
                      have t_301 : (I_293 o 6).toInt = (I_78 o 6).toInt := by rw [kp_297 6 rfl]
                      have t_302 : (I_293 o 7).toInt = (I_78 o 7).toInt := by rw [kp_297 7 rfl]
                      have t_303 : (I_293 o 8).toInt = (I_78 o 8).toInt := by rw [kp_297 8 rfl]
                      have t_304 : (I_293 o 9).toInt = (I_78 o 9).toInt := by rw [kp_297 9 rfl]
                      have t_305 : (I_293 o 44).toInt = (I_78 o 44).toInt := by rw [kp_297 44 rfl]
                      have t_306 : (I_293 o 45).toInt = (I_78 o 45).toInt := by rw [kp_297 45 rfl]
                      have t_307 : (I_293 o 47).toInt = (I_78 o 47).toInt := by rw [kp_297 47 rfl]
                      have g_308 : (0 : Int) ≤ (I_293 o 48).toInt ∧ (I_293 o 48).toInt ≤ 80 := hR_295.at0 ra 48 (by decide)
                      have t_309 : (I_293 o 46).toInt = (I_78 o 46).toInt := by rw [kp_297 46 rfl]
                      have k_310 : MTd I_293 o := k_94.fr (fr_296 _ (by first | omega | (dsimp only; omega))) (fr_296 _ (by first | omega | (dsimp only; omega))) (fr_296 _ (by first | omega | (dsimp only; omega)))
                      have k_311 : MPo I_293 o := k_95.fr (kp_297 8 rfl) (kp_297 9 rfl)
                      have k_312 : MTk I_293 o := k_96.fr (kp_297 6 rfl) (kp_297 7 rfl) (kp_297 8 rfl)
                      have k_313 : EX 0 1 1 f0 1 I_293 o := by have z := EX.push k_93 (v := 7) (s := 0) (dB := 1) (dO := 0) (wt' := 1) (by decide) (by decide) (by decide) (by omega) ⟨by decide, by decide⟩ ⟨fun h => absurd h (by decide), fun h => absurd h (by decide)⟩ (Or.inl rfl) (fr_296 _ (by first | omega | (dsimp only; omega))) (fr_296 _ (by first | omega | (dsimp only; omega))) (fr_296 _ (by first | omega | (dsimp only; omega))) u_290 u_291 (kp_297 3 rfl) (kp_297 6 rfl) (kp_297 44 rfl) (kp_297 45 rfl) (kp_297 47 rfl) u_292; exact EX.chg (b' := 1) z rfl rfl rfl rfl rfl rfl rfl rfl rfl rfl (by omega) z.pl
                      have g_314 : (0 : Int) ≤ (I_293 o 47).toInt ∧ (I_293 o 47).toInt ≤ 7 := hR_295.at0 ra 47 (by decide)
                      have a_315 : ((I_293 o 47) + 1).toInt = (I_293 o 47).toInt + (1 : Int32).toInt := tAdd (by omega) (by omega)
                      refine fun I_316 e_317 => ?_
                      have hR_318 : RI R I_316 := hR_295.up0 (k := 47) ra (by decide) (Or.inr hz57) e_317 (show (0 : Int) ≤ ((I_293 o 47) + 1).toInt by omega) (show ((I_293 o 47) + 1).toInt ≤ (7 : Int) by omega)
                      have hf_319 : Fm (fun c => c = o ∨ (o + 30 ≤ c ∧ c < o + 34)) I0 I_316 := hf_298.set (by first | rfl | omega | (dsimp only; omega)) e_317
                      have t_320 : (I_316 o 3).toInt = (I_293 o 3).toInt := by rw [← e_317, q_u_k (by decide)]
                      have t_321 : (I_316 o 4).toInt = (I_293 o 4).toInt := by rw [← e_317, q_u_k (by decide)]
                      have t_322 : (I_316 o 6).toInt = (I_293 o 6).toInt := by rw [← e_317, q_u_k (by decide)]
                      have t_323 : (I_316 o 7).toInt = (I_293 o 7).toInt := by rw [← e_317, q_u_k (by decide)]
                      have t_324 : (I_316 o 8).toInt = (I_293 o 8).toInt := by rw [← e_317, q_u_k (by decide)]
                      have t_325 : (I_316 o 9).toInt = (I_293 o 9).toInt := by rw [← e_317, q_u_k (by decide)]
                      have t_326 : (I_316 o 44).toInt = (I_293 o 44).toInt := by rw [← e_317, q_u_k (by decide)]
                      have t_327 : (I_316 o 45).toInt = (I_293 o 45).toInt := by rw [← e_317, q_u_k (by decide)]
                      have t_328 : (I_316 o 47).toInt = ((I_293 o 47) + 1).toInt := by rw [← e_317, q_u_at]
                      have t_329 : (I_316 o 48).toInt = (I_293 o 48).toInt := by rw [← e_317, q_u_k (by decide)]
                      have t_330 : (I_316 o 46).toInt = (I_293 o 46).toInt := by rw [← e_317, q_u_k (by decide)]
                      have k_331 : MTd I_316 o := k_310.fr (by rw [← e_317]; exact q_u_ne (by omega)) (by rw [← e_317]; exact q_u_ne (by omega)) (by rw [← e_317]; exact q_u_ne (by omega))
                      have k_332 : MPo I_316 o := k_311.fr (by rw [← e_317, q_u_k (by decide)]) (by rw [← e_317, q_u_k (by decide)])
                      have k_333 : MTk I_316 o := k_312.fr (by rw [← e_317, q_u_k (by decide)]) (by rw [← e_317, q_u_k (by decide)]) (by rw [← e_317, q_u_k (by decide)])
                      have tk := k_333.2 (by omega)
                      have k_335 : EX 0 0 1 f0 1 I_316 o := by exact EX.put47 k_313 e_317 (by omega)
                      refine y_Model_next hok hw ra hz16 hz17 hz18 hz19 (by first | omega | (intro h; omega) | exact Or.inl rfl | exact Or.inr rfl) hR_318 (fun I_345 L_346 hR_347 fr_348 kp_349 u_337 u_338 u_339 u_340 u_341 u_342 u_343 u_344 => ⟨I_345, L_346, rfl, rfl, ?_⟩)
                      have hf_350 : Fm (fun c => c = o ∨ (o + 30 ≤ c ∧ c < o + 34)) I0 I_345 := hf_319.call fr_348 (fun c hc => by first | exact hc | (dsimp only at hc ⊢; omega) | omega)
                      have t_351 : (I_345 o 3).toInt = (I_316 o 3).toInt := by rw [kp_349 3 rfl]
                      have t_352 : (I_345 o 4).toInt = (I_316 o 4).toInt := by rw [kp_349 4 rfl]
                      have g_353 : (0 : Int) ≤ (I_345 o 6).toInt ∧ (I_345 o 6).toInt ≤ 1600 := hR_347.at0 ra 6 (by decide)
                      have g_354 : (0 : Int) ≤ (I_345 o 7).toInt ∧ (I_345 o 7).toInt ≤ 1601 := hR_347.at0 ra 7 (by decide)
                      have g_355 : (0 : Int) ≤ (I_345 o 8).toInt ∧ (I_345 o 8).toInt ≤ 6 := hR_347.at0 ra 8 (by decide)
                      have t_356 : (I_345 o 44).toInt = (I_316 o 44).toInt := by rw [kp_349 44 rfl]
                      have t_357 : (I_345 o 45).toInt = (I_316 o 45).toInt := by rw [kp_349 45 rfl]
                      have t_358 : (I_345 o 47).toInt = (I_316 o 47).toInt := by rw [kp_349 47 rfl]
                      have t_359 : (I_345 o 48).toInt = (I_316 o 48).toInt := by rw [kp_349 48 rfl]
                      have t_360 : (I_345 o 46).toInt = (I_316 o 46).toInt := by rw [kp_349 46 rfl]
                      have k_361 : MTd I_345 o := k_331.fr (fr_348 _ (by first | omega | (dsimp only; omega))) (fr_348 _ (by first | omega | (dsimp only; omega))) (fr_348 _ (by first | omega | (dsimp only; omega)))
                      have ms := u_340 (by omega)
                      have k_362 : EX 0 0 0 f0 1 I_345 o := by exact EX.nx k_335 (fr_348 _ (by first | omega | (dsimp only; omega))) (fr_348 _ (by first | omega | (dsimp only; omega))) (fr_348 _ (by first | omega | (dsimp only; omega))) (fr_348 _ (by first | omega | (dsimp only; omega))) (fr_348 _ (by first | omega | (dsimp only; omega))) (kp_349 3 rfl) (kp_349 44 rfl) (kp_349 45 rfl) (kp_349 47 rfl) (kp_349 48 rfl) (by omega) (by omega)
                      exact (hp _ _ _ hR_347 hf_350 (Or.inr rfl) (by first | omega | (intro h; omega) | exact Or.inl rfl | exact Or.inr rfl) (by first | omega | (intro h; omega) | exact Or.inl rfl | exact Or.inr rfl) (by first | omega | (intro h; omega) | exact Or.inl rfl | exact Or.inr rfl) (by first | omega | (intro h; omega) | exact Or.inl rfl | exact Or.inr rfl) (by first | omega | (intro h; omega) | exact Or.inl rfl | exact Or.inr rfl) (by first | (intro h; exfalso; omega) | exact fun _ => k_362 | exact fun _ => (False.elim (by omega))) k_361 u_343 u_344)
                    · have d_363 := iEq c_286
                      have i_364 := u_284 (by omega)
                      exact (hp _ _ _ hR_80 hf_81 (Or.inr rfl) (by first | omega | (intro h; omega) | exact Or.inl rfl | exact Or.inr rfl) (by first | omega | (intro h; omega) | exact Or.inl rfl | exact Or.inr rfl) (by first | omega | (intro h; omega) | exact Or.inl rfl | exact Or.inr rfl) (by first | omega | (intro h; omega) | exact Or.inl rfl | exact Or.inr rfl) (by first | omega | (intro h; omega) | exact Or.inl rfl | exact Or.inr rfl) (by first | (intro h; exfalso; omega) | exact fun _ => k_93 | exact fun _ => (False.elim (by omega))) k_94 k_95 k_96)
                  · have d_365 := iEq c_279
                    refine y_Model_wrong hok hw ra hz14 hz15 hR_80 (fun I_369 L_370 hR_371 fr_372 kp_373 u_367 u_368 => ⟨I_369, L_370, rfl, rfl, ?_⟩)
                    have hf_374 : Fm (fun c => c = o ∨ (o + 30 ≤ c ∧ c < o + 34)) I0 I_369 := hf_81.call fr_372 (fun c hc => by first | exact hc | (dsimp only at hc ⊢; omega) | omega)
                    have t_375 : (I_369 o 3).toInt = (I_78 o 3).toInt := by rw [kp_373 3 rfl]
                    have g_376 : (0 : Int) ≤ (I_369 o 4).toInt ∧ (I_369 o 4).toInt ≤ 5 := hR_371.at0 ra 4 (by decide)
                    have t_377 : (I_369 o 6).toInt = (I_78 o 6).toInt := by rw [kp_373 6 rfl]
                    have t_378 : (I_369 o 7).toInt = (I_78 o 7).toInt := by rw [kp_373 7 rfl]
                    have t_379 : (I_369 o 8).toInt = (I_78 o 8).toInt := by rw [kp_373 8 rfl]
                    have t_380 : (I_369 o 9).toInt = (I_78 o 9).toInt := by rw [kp_373 9 rfl]
                    have t_381 : (I_369 o 44).toInt = (I_78 o 44).toInt := by rw [kp_373 44 rfl]
                    have t_382 : (I_369 o 45).toInt = (I_78 o 45).toInt := by rw [kp_373 45 rfl]
                    have t_383 : (I_369 o 47).toInt = (I_78 o 47).toInt := by rw [kp_373 47 rfl]
                    have t_384 : (I_369 o 48).toInt = (I_78 o 48).toInt := by rw [kp_373 48 rfl]
                    have t_385 : (I_369 o 46).toInt = (I_78 o 46).toInt := by rw [kp_373 46 rfl]
                    have k_386 : EX 0 0 0 f0 1 I_369 o := k_93.fr (fr_372 _ (by first | omega | (dsimp only; omega))) (fr_372 _ (by first | omega | (dsimp only; omega))) (fr_372 _ (by first | omega | (dsimp only; omega))) (fr_372 _ (by first | omega | (dsimp only; omega))) (fr_372 _ (by first | omega | (dsimp only; omega))) (kp_373 3 rfl) (kp_373 6 rfl) (kp_373 44 rfl) (kp_373 45 rfl) (kp_373 47 rfl) (kp_373 48 rfl)
                    have k_387 : MTd I_369 o := k_94.fr (fr_372 _ (by first | omega | (dsimp only; omega))) (fr_372 _ (by first | omega | (dsimp only; omega))) (fr_372 _ (by first | omega | (dsimp only; omega)))
                    have k_388 : MPo I_369 o := k_95.fr (kp_373 8 rfl) (kp_373 9 rfl)
                    have k_389 : MTk I_369 o := k_96.fr (kp_373 6 rfl) (kp_373 7 rfl) (kp_373 8 rfl)
                    refine y_Model_isGood hok hw ra hR_371 (fun r_390 u_391 u_392 u_393 => ⟨r_390, I_369, L_370, rfl, rfl, ?_⟩)
                    have b_394 : 0 ≤ r_390.toInt ∧ r_390.toInt ≤ 1 := u_391.rg
                    refine ⟨fun c_395 => ?_, fun c_395 => ?_⟩
                    · have d_396 := iNe c_395
                      have i_397 := u_392 (by omega)
                      refine y_Model_pile hok hw ra hz58 (by first | omega | (intro h; omega) | exact Or.inl rfl | exact Or.inr rfl) (by first | omega | (intro h; omega) | exact Or.inl rfl | exact Or.inr rfl) hR_371 (fun I_402 L_403 hR_404 fr_405 kp_406 u_399 u_400 u_401 => ⟨I_402, L_403, rfl, rfl, ?_⟩)
                      have hf_407 : Fm (fun c => c = o ∨ (o + 30 ≤ c ∧ c < o + 34)) I0 I_402 := hf_374.call fr_405 (fun c hc => by first | exact hc | (dsimp only at hc ⊢; omega) | omega)
                      have t_408 : (I_402 o 3).toInt = (I_369 o 3).toInt := by rw [kp_406 3 rfl]
                      have t_409 : (I_402 o 4).toInt = (I_369 o 4).toInt := by rw [kp_406 4 rfl]
                      have t_410 : (I_402 o 6).toInt = (I_369 o 6).toInt := by rw [kp_406 6 rfl]
                      have t_411 : (I_402 o 7).toInt = (I_369 o 7).toInt := by rw [kp_406 7 rfl]
                      have t_412 : (I_402 o 8).toInt = (I_369 o 8).toInt := by rw [kp_406 8 rfl]
                      have t_413 : (I_402 o 9).toInt = (I_369 o 9).toInt := by rw [kp_406 9 rfl]
                      have t_414 : (I_402 o 44).toInt = (I_369 o 44).toInt := by rw [kp_406 44 rfl]
                      have t_415 : (I_402 o 45).toInt = (I_369 o 45).toInt := by rw [kp_406 45 rfl]
                      have t_416 : (I_402 o 47).toInt = (I_369 o 47).toInt := by rw [kp_406 47 rfl]
                      have g_417 : (0 : Int) ≤ (I_402 o 48).toInt ∧ (I_402 o 48).toInt ≤ 80 := hR_404.at0 ra 48 (by decide)
                      have t_418 : (I_402 o 46).toInt = (I_369 o 46).toInt := by rw [kp_406 46 rfl]
                      have k_419 : MTd I_402 o := k_387.fr (fr_405 _ (by first | omega | (dsimp only; omega))) (fr_405 _ (by first | omega | (dsimp only; omega))) (fr_405 _ (by first | omega | (dsimp only; omega)))
                      have k_420 : MPo I_402 o := k_388.fr (kp_406 8 rfl) (kp_406 9 rfl)
                      have k_421 : MTk I_402 o := k_389.fr (kp_406 6 rfl) (kp_406 7 rfl) (kp_406 8 rfl)
                      have k_422 : EX 0 1 1 f0 1 I_402 o := by have z := EX.push k_386 (v := 7) (s := 0) (dB := 1) (dO := 0) (wt' := 1) (by decide) (by decide) (by decide) (by omega) ⟨by decide, by decide⟩ ⟨fun h => absurd h (by decide), fun h => absurd h (by decide)⟩ (Or.inl rfl) (fr_405 _ (by first | omega | (dsimp only; omega))) (fr_405 _ (by first | omega | (dsimp only; omega))) (fr_405 _ (by first | omega | (dsimp only; omega))) u_399 u_400 (kp_406 3 rfl) (kp_406 6 rfl) (kp_406 44 rfl) (kp_406 45 rfl) (kp_406 47 rfl) u_401; exact EX.chg (b' := 1) z rfl rfl rfl rfl rfl rfl rfl rfl rfl rfl (by omega) z.pl
                      have g_423 : (0 : Int) ≤ (I_402 o 47).toInt ∧ (I_402 o 47).toInt ≤ 7 := hR_404.at0 ra 47 (by decide)
                      have a_424 : ((I_402 o 47) + 1).toInt = (I_402 o 47).toInt + (1 : Int32).toInt := tAdd (by omega) (by omega)
                      refine fun I_425 e_426 => ?_
                      have hR_427 : RI R I_425 := hR_404.up0 (k := 47) ra (by decide) (Or.inr hz57) e_426 (show (0 : Int) ≤ ((I_402 o 47) + 1).toInt by omega) (show ((I_402 o 47) + 1).toInt ≤ (7 : Int) by omega)
                      have hf_428 : Fm (fun c => c = o ∨ (o + 30 ≤ c ∧ c < o + 34)) I0 I_425 := hf_407.set (by first | rfl | omega | (dsimp only; omega)) e_426
                      have t_429 : (I_425 o 3).toInt = (I_402 o 3).toInt := by rw [← e_426, q_u_k (by decide)]
                      have t_430 : (I_425 o 4).toInt = (I_402 o 4).toInt := by rw [← e_426, q_u_k (by decide)]
                      have t_431 : (I_425 o 6).toInt = (I_402 o 6).toInt := by rw [← e_426, q_u_k (by decide)]
                      have t_432 : (I_425 o 7).toInt = (I_402 o 7).toInt := by rw [← e_426, q_u_k (by decide)]
                      have t_433 : (I_425 o 8).toInt = (I_402 o 8).toInt := by rw [← e_426, q_u_k (by decide)]
                      have t_434 : (I_425 o 9).toInt = (I_402 o 9).toInt := by rw [← e_426, q_u_k (by decide)]
                      have t_435 : (I_425 o 44).toInt = (I_402 o 44).toInt := by rw [← e_426, q_u_k (by decide)]
                      have t_436 : (I_425 o 45).toInt = (I_402 o 45).toInt := by rw [← e_426, q_u_k (by decide)]
                      have t_437 : (I_425 o 47).toInt = ((I_402 o 47) + 1).toInt := by rw [← e_426, q_u_at]
                      have t_438 : (I_425 o 48).toInt = (I_402 o 48).toInt := by rw [← e_426, q_u_k (by decide)]
                      have t_439 : (I_425 o 46).toInt = (I_402 o 46).toInt := by rw [← e_426, q_u_k (by decide)]
                      have k_440 : MTd I_425 o := k_419.fr (by rw [← e_426]; exact q_u_ne (by omega)) (by rw [← e_426]; exact q_u_ne (by omega)) (by rw [← e_426]; exact q_u_ne (by omega))
                      have k_441 : MPo I_425 o := k_420.fr (by rw [← e_426, q_u_k (by decide)]) (by rw [← e_426, q_u_k (by decide)])
                      have k_442 : MTk I_425 o := k_421.fr (by rw [← e_426, q_u_k (by decide)]) (by rw [← e_426, q_u_k (by decide)]) (by rw [← e_426, q_u_k (by decide)])
                      have tk := k_442.2 (by omega)
                      have k_444 : EX 0 0 1 f0 1 I_425 o := by exact EX.put47 k_422 e_426 (by omega)
                      refine y_Model_next hok hw ra hz16 hz17 hz18 hz19 (by first | omega | (intro h; omega) | exact Or.inl rfl | exact Or.inr rfl) hR_427 (fun I_454 L_455 hR_456 fr_457 kp_458 u_446 u_447 u_448 u_449 u_450 u_451 u_452 u_453 => ⟨I_454, L_455, rfl, rfl, ?_⟩)
                      have hf_459 : Fm (fun c => c = o ∨ (o + 30 ≤ c ∧ c < o + 34)) I0 I_454 := hf_428.call fr_457 (fun c hc => by first | exact hc | (dsimp only at hc ⊢; omega) | omega)
                      have t_460 : (I_454 o 3).toInt = (I_425 o 3).toInt := by rw [kp_458 3 rfl]
                      have t_461 : (I_454 o 4).toInt = (I_425 o 4).toInt := by rw [kp_458 4 rfl]
                      have g_462 : (0 : Int) ≤ (I_454 o 6).toInt ∧ (I_454 o 6).toInt ≤ 1600 := hR_456.at0 ra 6 (by decide)
                      have g_463 : (0 : Int) ≤ (I_454 o 7).toInt ∧ (I_454 o 7).toInt ≤ 1601 := hR_456.at0 ra 7 (by decide)
                      have g_464 : (0 : Int) ≤ (I_454 o 8).toInt ∧ (I_454 o 8).toInt ≤ 6 := hR_456.at0 ra 8 (by decide)
                      have t_465 : (I_454 o 44).toInt = (I_425 o 44).toInt := by rw [kp_458 44 rfl]
                      have t_466 : (I_454 o 45).toInt = (I_425 o 45).toInt := by rw [kp_458 45 rfl]
                      have t_467 : (I_454 o 47).toInt = (I_425 o 47).toInt := by rw [kp_458 47 rfl]
                      have t_468 : (I_454 o 48).toInt = (I_425 o 48).toInt := by rw [kp_458 48 rfl]
                      have t_469 : (I_454 o 46).toInt = (I_425 o 46).toInt := by rw [kp_458 46 rfl]
                      have k_470 : MTd I_454 o := k_440.fr (fr_457 _ (by first | omega | (dsimp only; omega))) (fr_457 _ (by first | omega | (dsimp only; omega))) (fr_457 _ (by first | omega | (dsimp only; omega)))
                      have ms := u_449 (by omega)
                      have k_471 : EX 0 0 0 f0 1 I_454 o := by exact EX.nx k_444 (fr_457 _ (by first | omega | (dsimp only; omega))) (fr_457 _ (by first | omega | (dsimp only; omega))) (fr_457 _ (by first | omega | (dsimp only; omega))) (fr_457 _ (by first | omega | (dsimp only; omega))) (fr_457 _ (by first | omega | (dsimp only; omega))) (kp_458 3 rfl) (kp_458 44 rfl) (kp_458 45 rfl) (kp_458 47 rfl) (kp_458 48 rfl) (by omega) (by omega)
                      exact (hp _ _ _ hR_456 hf_459 (Or.inr rfl) (by first | omega | (intro h; omega) | exact Or.inl rfl | exact Or.inr rfl) (by first | omega | (intro h; omega) | exact Or.inl rfl | exact Or.inr rfl) (by first | omega | (intro h; omega) | exact Or.inl rfl | exact Or.inr rfl) (by first | omega | (intro h; omega) | exact Or.inl rfl | exact Or.inr rfl) (by first | omega | (intro h; omega) | exact Or.inl rfl | exact Or.inr rfl) (by first | (intro h; exfalso; omega) | exact fun _ => k_471 | exact fun _ => (False.elim (by omega))) k_470 u_452 u_453)
                    · have d_472 := iEq c_395
                      have i_473 := u_393 (by omega)
                      exact (hp _ _ _ hR_371 hf_374 (Or.inr rfl) (by first | omega | (intro h; omega) | exact Or.inl rfl | exact Or.inr rfl) (by first | omega | (intro h; omega) | exact Or.inl rfl | exact Or.inr rfl) (by first | omega | (intro h; omega) | exact Or.inl rfl | exact Or.inr rfl) (by first | omega | (intro h; omega) | exact Or.inl rfl | exact Or.inr rfl) (by first | omega | (intro h; omega) | exact Or.inl rfl | exact Or.inr rfl) (by first | (intro h; exfalso; omega) | exact fun _ => k_386 | exact fun _ => (False.elim (by omega))) k_387 k_388 k_389)
              · have d_474 := iEq c_73
                have i_475 := u_71 (by omega)
                exact (hp _ _ _ hR_34 hf_37 (Or.inr rfl) (by first | omega | (intro h; omega) | exact Or.inl rfl | exact Or.inr rfl) (by first | omega | (intro h; omega) | exact Or.inl rfl | exact Or.inr rfl) (by first | omega | (intro h; omega) | exact Or.inl rfl | exact Or.inr rfl) (by first | omega | (intro h; omega) | exact Or.inl rfl | exact Or.inr rfl) (by first | omega | (intro h; omega) | exact Or.inl rfl | exact Or.inr rfl) (by first | (intro h; exfalso; omega) | exact fun _ => k_48 | exact fun _ => (False.elim (by omega))) k_49 k_50 k_51)
            · have d_476 := iEq c_66
              unfold fModel_unit_140
              refine y_Model_wrong hok hw ra hz14 hz15 hR_34 (fun I_480 L_481 hR_482 fr_483 kp_484 u_478 u_479 => ⟨I_480, L_481, rfl, rfl, ?_⟩)
              have hf_485 : Fm (fun c => c = o ∨ (o + 30 ≤ c ∧ c < o + 34)) I0 I_480 := hf_37.call fr_483 (fun c hc => by first | exact hc | (dsimp only at hc ⊢; omega) | omega)
              have t_486 : (I_480 o 3).toInt = (I_32 o 3).toInt := by rw [kp_484 3 rfl]
              have g_487 : (0 : Int) ≤ (I_480 o 4).toInt ∧ (I_480 o 4).toInt ≤ 5 := hR_482.at0 ra 4 (by decide)
              have t_488 : (I_480 o 6).toInt = (I_32 o 6).toInt := by rw [kp_484 6 rfl]
              have t_489 : (I_480 o 7).toInt = (I_32 o 7).toInt := by rw [kp_484 7 rfl]
              have t_490 : (I_480 o 8).toInt = (I_32 o 8).toInt := by rw [kp_484 8 rfl]
              have t_491 : (I_480 o 9).toInt = (I_32 o 9).toInt := by rw [kp_484 9 rfl]
              have t_492 : (I_480 o 44).toInt = (I_32 o 44).toInt := by rw [kp_484 44 rfl]
              have t_493 : (I_480 o 45).toInt = (I_32 o 45).toInt := by rw [kp_484 45 rfl]
              have t_494 : (I_480 o 47).toInt = (I_32 o 47).toInt := by rw [kp_484 47 rfl]
              have t_495 : (I_480 o 48).toInt = (I_32 o 48).toInt := by rw [kp_484 48 rfl]
              have t_496 : (I_480 o 46).toInt = (I_32 o 46).toInt := by rw [kp_484 46 rfl]
              have k_497 : EX 0 0 0 f0 1 I_480 o := k_48.fr (fr_483 _ (by first | omega | (dsimp only; omega))) (fr_483 _ (by first | omega | (dsimp only; omega))) (fr_483 _ (by first | omega | (dsimp only; omega))) (fr_483 _ (by first | omega | (dsimp only; omega))) (fr_483 _ (by first | omega | (dsimp only; omega))) (kp_484 3 rfl) (kp_484 6 rfl) (kp_484 44 rfl) (kp_484 45 rfl) (kp_484 47 rfl) (kp_484 48 rfl)
              have k_498 : MTd I_480 o := k_49.fr (fr_483 _ (by first | omega | (dsimp only; omega))) (fr_483 _ (by first | omega | (dsimp only; omega))) (fr_483 _ (by first | omega | (dsimp only; omega)))
              have k_499 : MPo I_480 o := k_50.fr (kp_484 8 rfl) (kp_484 9 rfl)
              have k_500 : MTk I_480 o := k_51.fr (kp_484 6 rfl) (kp_484 7 rfl) (kp_484 8 rfl)
              refine y_Model_isGood hok hw ra hR_482 (fun r_501 u_502 u_503 u_504 => ⟨r_501, I_480, L_481, rfl, rfl, ?_⟩)
              have b_505 : 0 ≤ r_501.toInt ∧ r_501.toInt ≤ 1 := u_502.rg
              refine ⟨fun c_506 => ?_, fun c_506 => ?_⟩
              · have d_507 := iNe c_506
                have i_508 := u_503 (by omega)
                have g_509 : (0 : Int) ≤ (I_480 o 46).toInt ∧ (I_480 o 46).toInt ≤ 100 := hR_482.at0 ra 46 (by decide)
                have a_510 : ((I_480 o 46) + 1).toInt = (I_480 o 46).toInt + (1 : Int32).toInt := tAdd (by omega) (by omega)
                refine fun I_511 e_512 => ?_
                have hR_513 : RI R I_511 := hR_482.up0 (k := 46) ra (by decide) (Or.inr hz56) e_512 (show (0 : Int) ≤ ((I_480 o 46) + 1).toInt by omega) (show ((I_480 o 46) + 1).toInt ≤ (100 : Int) by omega)
                have hf_514 : Fm (fun c => c = o ∨ (o + 30 ≤ c ∧ c < o + 34)) I0 I_511 := hf_485.set (by first | rfl | omega | (dsimp only; omega)) e_512
                have t_515 : (I_511 o 3).toInt = (I_480 o 3).toInt := by rw [← e_512, q_u_k (by decide)]
                have t_516 : (I_511 o 4).toInt = (I_480 o 4).toInt := by rw [← e_512, q_u_k (by decide)]
                have t_517 : (I_511 o 6).toInt = (I_480 o 6).toInt := by rw [← e_512, q_u_k (by decide)]
                have t_518 : (I_511 o 7).toInt = (I_480 o 7).toInt := by rw [← e_512, q_u_k (by decide)]
                have t_519 : (I_511 o 8).toInt = (I_480 o 8).toInt := by rw [← e_512, q_u_k (by decide)]
                have t_520 : (I_511 o 9).toInt = (I_480 o 9).toInt := by rw [← e_512, q_u_k (by decide)]
                have t_521 : (I_511 o 44).toInt = (I_480 o 44).toInt := by rw [← e_512, q_u_k (by decide)]
                have t_522 : (I_511 o 45).toInt = (I_480 o 45).toInt := by rw [← e_512, q_u_k (by decide)]
                have t_523 : (I_511 o 47).toInt = (I_480 o 47).toInt := by rw [← e_512, q_u_k (by decide)]
                have t_524 : (I_511 o 48).toInt = (I_480 o 48).toInt := by rw [← e_512, q_u_k (by decide)]
                have t_525 : (I_511 o 46).toInt = ((I_480 o 46) + 1).toInt := by rw [← e_512, q_u_at]
                have k_526 : EX 0 0 0 f0 1 I_511 o := k_497.fr (by rw [← e_512]; exact q_u_ne (by omega)) (by rw [← e_512]; exact q_u_ne (by omega)) (by rw [← e_512]; exact q_u_ne (by omega)) (by rw [← e_512]; exact q_u_ne (by omega)) (by rw [← e_512]; exact q_u_ne (by omega)) (by rw [← e_512, q_u_k (by decide)]) (by rw [← e_512, q_u_k (by decide)]) (by rw [← e_512, q_u_k (by decide)]) (by rw [← e_512, q_u_k (by decide)]) (by rw [← e_512, q_u_k (by decide)]) (by rw [← e_512, q_u_k (by decide)])
                have k_527 : MTd I_511 o := k_498.fr (by rw [← e_512]; exact q_u_ne (by omega)) (by rw [← e_512]; exact q_u_ne (by omega)) (by rw [← e_512]; exact q_u_ne (by omega))
                have k_528 : MPo I_511 o := k_499.fr (by rw [← e_512, q_u_k (by decide)]) (by rw [← e_512, q_u_k (by decide)])
                have k_529 : MTk I_511 o := k_500.fr (by rw [← e_512, q_u_k (by decide)]) (by rw [← e_512, q_u_k (by decide)]) (by rw [← e_512, q_u_k (by decide)])
                have l_530 : (40 : Int32).toInt = 40 := rfl
                refine y_Model_is hok hw ra hR_513 (fun r_531 u_532 u_533 u_534 => ⟨r_531, I_511, L_481, rfl, rfl, ?_⟩)
                have b_535 : 0 ≤ r_531.toInt ∧ r_531.toInt ≤ 1 := u_532.rg
                refine ⟨fun c_536 => ?_, fun c_536 => ?_⟩
                · have d_537 := iEq c_536
                  have cd := k_526.cod
                  have tk := k_529.2 (by omega)
                  refine ⟨fun c_538 => ?_, fun c_538 => ?_⟩
                  · have d_539 := iNe c_538
                    have i_540 := u_29 (by omega)
                    have i_541 := u_30 (by omega)
                    unfold fModel_unit_228
                    refine ⟨fun c_542 => ?_, fun c_542 => ?_⟩
                    · have d_543 := iNe c_542
                      have i_544 := u_29 (by omega)
                      have i_545 := u_30 (by omega)
                      refine y_Model_step hok hw ra hz55 (by first | omega | (intro h; omega) | exact Or.inl rfl | exact Or.inr rfl) (by first | omega | (intro h; omega) | exact Or.inl rfl | exact Or.inr rfl) hR_513 (fun I_549 L_550 hR_551 fr_552 kp_553 u_547 u_548 => ⟨I_549, L_550, rfl, rfl, ?_⟩)
                      have hf_554 : Fm (fun c => c = o ∨ (o + 30 ≤ c ∧ c < o + 34)) I0 I_549 := hf_514.call fr_552 (fun c hc => by first | exact hc | (dsimp only at hc ⊢; omega) | omega)
                      have t_555 : (I_549 o 3).toInt = (I_511 o 3).toInt := by rw [kp_553 3 rfl]
                      have t_556 : (I_549 o 4).toInt = (I_511 o 4).toInt := by rw [kp_553 4 rfl]
                      have t_557 : (I_549 o 6).toInt = (I_511 o 6).toInt := by rw [kp_553 6 rfl]
                      have t_558 : (I_549 o 7).toInt = (I_511 o 7).toInt := by rw [kp_553 7 rfl]
                      have t_559 : (I_549 o 8).toInt = (I_511 o 8).toInt := by rw [kp_553 8 rfl]
                      have t_560 : (I_549 o 9).toInt = (I_511 o 9).toInt := by rw [kp_553 9 rfl]
                      have t_561 : (I_549 o 44).toInt = (I_511 o 44).toInt := by rw [kp_553 44 rfl]
                      have g_562 : (0 : Int) ≤ (I_549 o 45).toInt ∧ (I_549 o 45).toInt ≤ 700 := hR_551.at0 ra 45 (by decide)
                      have t_563 : (I_549 o 47).toInt = (I_511 o 47).toInt := by rw [kp_553 47 rfl]
                      have t_564 : (I_549 o 48).toInt = (I_511 o 48).toInt := by rw [kp_553 48 rfl]
                      have t_565 : (I_549 o 46).toInt = (I_511 o 46).toInt := by rw [kp_553 46 rfl]
                      have k_566 : MPo I_549 o := k_528.fr (kp_553 8 rfl) (kp_553 9 rfl)
                      have k_567 : MTk I_549 o := k_529.fr (kp_553 6 rfl) (kp_553 7 rfl) (kp_553 8 rfl)
                      have tk := k_567.2 (by omega)
                      have k_568 : EX 0 0 1 f0 0 I_549 o := by exact EX.step1 k_526 (by first | exact u_29 (by omega) | (unfold isT; decide)) (by omega) (fr_552 _ (by first | omega | (dsimp only; omega))) (fr_552 _ (by first | omega | (dsimp only; omega))) u_547 (fr_552 _ (by first | omega | (dsimp only; omega))) (fr_552 _ (by first | omega | (dsimp only; omega))) (kp_553 3 rfl) (kp_553 6 rfl) (kp_553 44 rfl) u_548 (kp_553 47 rfl) (kp_553 48 rfl)
                      have k_569 : MTd I_549 o := by exact MTd.step k_527 (fr_552 _ (by first | omega | (dsimp only; omega))) (fr_552 _ (by first | omega | (dsimp only; omega))) u_547 (by omega)
                      refine y_Model_next hok hw ra hz16 hz17 hz18 hz19 (by first | omega | (intro h; omega) | exact Or.inl rfl | exact Or.inr rfl) hR_551 (fun I_579 L_580 hR_581 fr_582 kp_583 u_571 u_572 u_573 u_574 u_575 u_576 u_577 u_578 => ⟨I_579, L_580, rfl, rfl, ?_⟩)
                      have hf_584 : Fm (fun c => c = o ∨ (o + 30 ≤ c ∧ c < o + 34)) I0 I_579 := hf_554.call fr_582 (fun c hc => by first | exact hc | (dsimp only at hc ⊢; omega) | omega)
                      have t_585 : (I_579 o 3).toInt = (I_549 o 3).toInt := by rw [kp_583 3 rfl]
                      have t_586 : (I_579 o 4).toInt = (I_549 o 4).toInt := by rw [kp_583 4 rfl]
                      have g_587 : (0 : Int) ≤ (I_579 o 6).toInt ∧ (I_579 o 6).toInt ≤ 1600 := hR_581.at0 ra 6 (by decide)
                      have g_588 : (0 : Int) ≤ (I_579 o 7).toInt ∧ (I_579 o 7).toInt ≤ 1601 := hR_581.at0 ra 7 (by decide)
                      have g_589 : (0 : Int) ≤ (I_579 o 8).toInt ∧ (I_579 o 8).toInt ≤ 6 := hR_581.at0 ra 8 (by decide)
                      have t_590 : (I_579 o 44).toInt = (I_549 o 44).toInt := by rw [kp_583 44 rfl]
                      have t_591 : (I_579 o 45).toInt = (I_549 o 45).toInt := by rw [kp_583 45 rfl]
                      have t_592 : (I_579 o 47).toInt = (I_549 o 47).toInt := by rw [kp_583 47 rfl]
                      have t_593 : (I_579 o 48).toInt = (I_549 o 48).toInt := by rw [kp_583 48 rfl]
                      have t_594 : (I_579 o 46).toInt = (I_549 o 46).toInt := by rw [kp_583 46 rfl]
                      have k_595 : MTd I_579 o := k_569.fr (fr_582 _ (by first | omega | (dsimp only; omega))) (fr_582 _ (by first | omega | (dsimp only; omega))) (fr_582 _ (by first | omega | (dsimp only; omega)))
                      have ms := u_574 (by omega)
                      have k_596 : EX 0 0 0 f0 0 I_579 o := by exact EX.nx k_568 (fr_582 _ (by first | omega | (dsimp only; omega))) (fr_582 _ (by first | omega | (dsimp only; omega))) (fr_582 _ (by first | omega | (dsimp only; omega))) (fr_582 _ (by first | omega | (dsimp only; omega))) (fr_582 _ (by first | omega | (dsimp only; omega))) (kp_583 3 rfl) (kp_583 44 rfl) (kp_583 45 rfl) (kp_583 47 rfl) (kp_583 48 rfl) (by omega) (by omega)
                      exact (hp _ _ _ hR_581 hf_584 (Or.inl rfl) (by first | omega | (intro h; omega) | exact Or.inl rfl | exact Or.inr rfl) (by first | omega | (intro h; omega) | exact Or.inl rfl | exact Or.inr rfl) (by first | omega | (intro h; omega) | exact Or.inl rfl | exact Or.inr rfl) (by first | omega | (intro h; omega) | exact Or.inl rfl | exact Or.inr rfl) (by first | omega | (intro h; omega) | exact Or.inl rfl | exact Or.inr rfl) (by first | (intro h; exfalso; omega) | exact fun _ => (False.elim (by omega)) | exact fun _ => k_596) k_595 u_577 u_578)
                    · have d_597 := iEq c_542
                      refine y_Model_step hok hw ra hz55 (by first | omega | (intro h; omega) | exact Or.inl rfl | exact Or.inr rfl) (by first | omega | (intro h; omega) | exact Or.inl rfl | exact Or.inr rfl) hR_513 (fun I_601 L_602 hR_603 fr_604 kp_605 u_599 u_600 => ⟨I_601, L_602, rfl, rfl, ?_⟩)
                      have hf_606 : Fm (fun c => c = o ∨ (o + 30 ≤ c ∧ c < o + 34)) I0 I_601 := hf_514.call fr_604 (fun c hc => by first | exact hc | (dsimp only at hc ⊢; omega) | omega)
                      have t_607 : (I_601 o 3).toInt = (I_511 o 3).toInt := by rw [kp_605 3 rfl]
                      have t_608 : (I_601 o 4).toInt = (I_511 o 4).toInt := by rw [kp_605 4 rfl]
                      have t_609 : (I_601 o 6).toInt = (I_511 o 6).toInt := by rw [kp_605 6 rfl]
                      have t_610 : (I_601 o 7).toInt = (I_511 o 7).toInt := by rw [kp_605 7 rfl]
                      have t_611 : (I_601 o 8).toInt = (I_511 o 8).toInt := by rw [kp_605 8 rfl]
                      have t_612 : (I_601 o 9).toInt = (I_511 o 9).toInt := by rw [kp_605 9 rfl]
                      have t_613 : (I_601 o 44).toInt = (I_511 o 44).toInt := by rw [kp_605 44 rfl]
                      have g_614 : (0 : Int) ≤ (I_601 o 45).toInt ∧ (I_601 o 45).toInt ≤ 700 := hR_603.at0 ra 45 (by decide)
                      have t_615 : (I_601 o 47).toInt = (I_511 o 47).toInt := by rw [kp_605 47 rfl]
                      have t_616 : (I_601 o 48).toInt = (I_511 o 48).toInt := by rw [kp_605 48 rfl]
                      have t_617 : (I_601 o 46).toInt = (I_511 o 46).toInt := by rw [kp_605 46 rfl]
                      have k_618 : MPo I_601 o := k_528.fr (kp_605 8 rfl) (kp_605 9 rfl)
                      have k_619 : MTk I_601 o := k_529.fr (kp_605 6 rfl) (kp_605 7 rfl) (kp_605 8 rfl)
                      have tk := k_619.2 (by omega)
                      have k_620 : EX 0 0 1 f0 0 I_601 o := by exact EX.step1 k_526 (by first | exact u_29 (by omega) | (unfold isT; decide)) (by omega) (fr_604 _ (by first | omega | (dsimp only; omega))) (fr_604 _ (by first | omega | (dsimp only; omega))) u_599 (fr_604 _ (by first | omega | (dsimp only; omega))) (fr_604 _ (by first | omega | (dsimp only; omega))) (kp_605 3 rfl) (kp_605 6 rfl) (kp_605 44 rfl) u_600 (kp_605 47 rfl) (kp_605 48 rfl)
                      have k_621 : MTd I_601 o := by exact MTd.step k_527 (fr_604 _ (by first | omega | (dsimp only; omega))) (fr_604 _ (by first | omega | (dsimp only; omega))) u_599 (by omega)
                      refine y_Model_next hok hw ra hz16 hz17 hz18 hz19 (by first | omega | (intro h; omega) | exact Or.inl rfl | exact Or.inr rfl) hR_603 (fun I_631 L_632 hR_633 fr_634 kp_635 u_623 u_624 u_625 u_626 u_627 u_628 u_629 u_630 => ⟨I_631, L_632, rfl, rfl, ?_⟩)
                      have hf_636 : Fm (fun c => c = o ∨ (o + 30 ≤ c ∧ c < o + 34)) I0 I_631 := hf_606.call fr_634 (fun c hc => by first | exact hc | (dsimp only at hc ⊢; omega) | omega)
                      have t_637 : (I_631 o 3).toInt = (I_601 o 3).toInt := by rw [kp_635 3 rfl]
                      have t_638 : (I_631 o 4).toInt = (I_601 o 4).toInt := by rw [kp_635 4 rfl]
                      have g_639 : (0 : Int) ≤ (I_631 o 6).toInt ∧ (I_631 o 6).toInt ≤ 1600 := hR_633.at0 ra 6 (by decide)
                      have g_640 : (0 : Int) ≤ (I_631 o 7).toInt ∧ (I_631 o 7).toInt ≤ 1601 := hR_633.at0 ra 7 (by decide)
                      have g_641 : (0 : Int) ≤ (I_631 o 8).toInt ∧ (I_631 o 8).toInt ≤ 6 := hR_633.at0 ra 8 (by decide)
                      have t_642 : (I_631 o 44).toInt = (I_601 o 44).toInt := by rw [kp_635 44 rfl]
                      have t_643 : (I_631 o 45).toInt = (I_601 o 45).toInt := by rw [kp_635 45 rfl]
                      have t_644 : (I_631 o 47).toInt = (I_601 o 47).toInt := by rw [kp_635 47 rfl]
                      have t_645 : (I_631 o 48).toInt = (I_601 o 48).toInt := by rw [kp_635 48 rfl]
                      have t_646 : (I_631 o 46).toInt = (I_601 o 46).toInt := by rw [kp_635 46 rfl]
                      have k_647 : MTd I_631 o := k_621.fr (fr_634 _ (by first | omega | (dsimp only; omega))) (fr_634 _ (by first | omega | (dsimp only; omega))) (fr_634 _ (by first | omega | (dsimp only; omega)))
                      have ms := u_626 (by omega)
                      have k_648 : EX 0 0 0 f0 0 I_631 o := by exact EX.nx k_620 (fr_634 _ (by first | omega | (dsimp only; omega))) (fr_634 _ (by first | omega | (dsimp only; omega))) (fr_634 _ (by first | omega | (dsimp only; omega))) (fr_634 _ (by first | omega | (dsimp only; omega))) (fr_634 _ (by first | omega | (dsimp only; omega))) (kp_635 3 rfl) (kp_635 44 rfl) (kp_635 45 rfl) (kp_635 47 rfl) (kp_635 48 rfl) (by omega) (by omega)
                      exact (hp _ _ _ hR_633 hf_636 (Or.inl rfl) (by first | omega | (intro h; omega) | exact Or.inl rfl | exact Or.inr rfl) (by first | omega | (intro h; omega) | exact Or.inl rfl | exact Or.inr rfl) (by first | omega | (intro h; omega) | exact Or.inl rfl | exact Or.inr rfl) (by first | omega | (intro h; omega) | exact Or.inl rfl | exact Or.inr rfl) (by first | omega | (intro h; omega) | exact Or.inl rfl | exact Or.inr rfl) (by first | (intro h; exfalso; omega) | exact fun _ => (False.elim (by omega)) | exact fun _ => k_648) k_647 u_629 u_630)
                  · have d_649 := iEq c_538
                    unfold fModel_unit_228
                    have l_650 : (78 : Int32).toInt = 78 := rfl
                    refine ⟨fun c_651 => ?_, fun c_651 => ?_⟩
                    · have d_652 := iNe c_651
                      have i_653 := u_29 (by omega)
                      have i_654 := u_30 (by omega)
                      exfalso; omega
                    · have d_655 := iEq c_651
                      refine y_Model_step hok hw ra hz55 (by first | omega | (intro h; omega) | exact Or.inl rfl | exact Or.inr rfl) (by first | omega | (intro h; omega) | exact Or.inl rfl | exact Or.inr rfl) hR_513 (fun I_659 L_660 hR_661 fr_662 kp_663 u_657 u_658 => ⟨I_659, L_660, rfl, rfl, ?_⟩)
                      have hf_664 : Fm (fun c => c = o ∨ (o + 30 ≤ c ∧ c < o + 34)) I0 I_659 := hf_514.call fr_662 (fun c hc => by first | exact hc | (dsimp only at hc ⊢; omega) | omega)
                      have t_665 : (I_659 o 3).toInt = (I_511 o 3).toInt := by rw [kp_663 3 rfl]
                      have t_666 : (I_659 o 4).toInt = (I_511 o 4).toInt := by rw [kp_663 4 rfl]
                      have t_667 : (I_659 o 6).toInt = (I_511 o 6).toInt := by rw [kp_663 6 rfl]
                      have t_668 : (I_659 o 7).toInt = (I_511 o 7).toInt := by rw [kp_663 7 rfl]
                      have t_669 : (I_659 o 8).toInt = (I_511 o 8).toInt := by rw [kp_663 8 rfl]
                      have t_670 : (I_659 o 9).toInt = (I_511 o 9).toInt := by rw [kp_663 9 rfl]
                      have t_671 : (I_659 o 44).toInt = (I_511 o 44).toInt := by rw [kp_663 44 rfl]
                      have g_672 : (0 : Int) ≤ (I_659 o 45).toInt ∧ (I_659 o 45).toInt ≤ 700 := hR_661.at0 ra 45 (by decide)
                      have t_673 : (I_659 o 47).toInt = (I_511 o 47).toInt := by rw [kp_663 47 rfl]
                      have t_674 : (I_659 o 48).toInt = (I_511 o 48).toInt := by rw [kp_663 48 rfl]
                      have t_675 : (I_659 o 46).toInt = (I_511 o 46).toInt := by rw [kp_663 46 rfl]
                      have k_676 : MPo I_659 o := k_528.fr (kp_663 8 rfl) (kp_663 9 rfl)
                      have k_677 : MTk I_659 o := k_529.fr (kp_663 6 rfl) (kp_663 7 rfl) (kp_663 8 rfl)
                      have tk := k_677.2 (by omega)
                      have k_678 : EX 0 0 1 f0 0 I_659 o := by exact EX.step1 k_526 (by first | exact u_29 (by omega) | (unfold isT; decide)) (by omega) (fr_662 _ (by first | omega | (dsimp only; omega))) (fr_662 _ (by first | omega | (dsimp only; omega))) u_657 (fr_662 _ (by first | omega | (dsimp only; omega))) (fr_662 _ (by first | omega | (dsimp only; omega))) (kp_663 3 rfl) (kp_663 6 rfl) (kp_663 44 rfl) u_658 (kp_663 47 rfl) (kp_663 48 rfl)
                      have k_679 : MTd I_659 o := by exact MTd.step k_527 (fr_662 _ (by first | omega | (dsimp only; omega))) (fr_662 _ (by first | omega | (dsimp only; omega))) u_657 (by omega)
                      refine y_Model_next hok hw ra hz16 hz17 hz18 hz19 (by first | omega | (intro h; omega) | exact Or.inl rfl | exact Or.inr rfl) hR_661 (fun I_689 L_690 hR_691 fr_692 kp_693 u_681 u_682 u_683 u_684 u_685 u_686 u_687 u_688 => ⟨I_689, L_690, rfl, rfl, ?_⟩)
                      have hf_694 : Fm (fun c => c = o ∨ (o + 30 ≤ c ∧ c < o + 34)) I0 I_689 := hf_664.call fr_692 (fun c hc => by first | exact hc | (dsimp only at hc ⊢; omega) | omega)
                      have t_695 : (I_689 o 3).toInt = (I_659 o 3).toInt := by rw [kp_693 3 rfl]
                      have t_696 : (I_689 o 4).toInt = (I_659 o 4).toInt := by rw [kp_693 4 rfl]
                      have g_697 : (0 : Int) ≤ (I_689 o 6).toInt ∧ (I_689 o 6).toInt ≤ 1600 := hR_691.at0 ra 6 (by decide)
                      have g_698 : (0 : Int) ≤ (I_689 o 7).toInt ∧ (I_689 o 7).toInt ≤ 1601 := hR_691.at0 ra 7 (by decide)
                      have g_699 : (0 : Int) ≤ (I_689 o 8).toInt ∧ (I_689 o 8).toInt ≤ 6 := hR_691.at0 ra 8 (by decide)
                      have t_700 : (I_689 o 44).toInt = (I_659 o 44).toInt := by rw [kp_693 44 rfl]
                      have t_701 : (I_689 o 45).toInt = (I_659 o 45).toInt := by rw [kp_693 45 rfl]
                      have t_702 : (I_689 o 47).toInt = (I_659 o 47).toInt := by rw [kp_693 47 rfl]
                      have t_703 : (I_689 o 48).toInt = (I_659 o 48).toInt := by rw [kp_693 48 rfl]
                      have t_704 : (I_689 o 46).toInt = (I_659 o 46).toInt := by rw [kp_693 46 rfl]
                      have k_705 : MTd I_689 o := k_679.fr (fr_692 _ (by first | omega | (dsimp only; omega))) (fr_692 _ (by first | omega | (dsimp only; omega))) (fr_692 _ (by first | omega | (dsimp only; omega)))
                      have ms := u_684 (by omega)
                      have k_706 : EX 0 0 0 f0 0 I_689 o := by exact EX.nx k_678 (fr_692 _ (by first | omega | (dsimp only; omega))) (fr_692 _ (by first | omega | (dsimp only; omega))) (fr_692 _ (by first | omega | (dsimp only; omega))) (fr_692 _ (by first | omega | (dsimp only; omega))) (fr_692 _ (by first | omega | (dsimp only; omega))) (kp_693 3 rfl) (kp_693 44 rfl) (kp_693 45 rfl) (kp_693 47 rfl) (kp_693 48 rfl) (by omega) (by omega)
                      exact (hp _ _ _ hR_691 hf_694 (Or.inl rfl) (by first | omega | (intro h; omega) | exact Or.inl rfl | exact Or.inr rfl) (by first | omega | (intro h; omega) | exact Or.inl rfl | exact Or.inr rfl) (by first | omega | (intro h; omega) | exact Or.inl rfl | exact Or.inr rfl) (by first | omega | (intro h; omega) | exact Or.inl rfl | exact Or.inr rfl) (by first | omega | (intro h; omega) | exact Or.inl rfl | exact Or.inr rfl) (by first | (intro h; exfalso; omega) | exact fun _ => (False.elim (by omega)) | exact fun _ => k_706) k_705 u_687 u_688)
                · have d_707 := iNe c_536
                  have i_708 := u_533 (by omega)
                  have i_709 := u_534 (by omega)
                  have g_710 : (0 : Int) ≤ (I_511 o 47).toInt ∧ (I_511 o 47).toInt ≤ 7 := hR_513.at0 ra 47 (by decide)
                  have l_711 : (7 : Int32).toInt = 7 := rfl
                  refine ⟨fun c_712 => ?_, fun c_712 => ?_⟩
                  · have d_713 := iNe c_712
                    refine y_Model_isGood hok hw ra hR_513 (fun r_714 u_715 u_716 u_717 => ⟨r_714, I_511, L_481, rfl, rfl, ?_⟩)
                    have b_718 : 0 ≤ r_714.toInt ∧ r_714.toInt ≤ 1 := u_715.rg
                    refine ⟨fun c_719 => ?_, fun c_719 => ?_⟩
                    · have d_720 := iNe c_719
                      have i_721 := u_716 (by omega)
                      refine y_Model_pile hok hw ra hz58 (by first | omega | (intro h; omega) | exact Or.inl rfl | exact Or.inr rfl) (by first | omega | (intro h; omega) | exact Or.inl rfl | exact Or.inr rfl) hR_513 (fun I_726 L_727 hR_728 fr_729 kp_730 u_723 u_724 u_725 => ⟨I_726, L_727, rfl, rfl, ?_⟩)
                      have hf_731 : Fm (fun c => c = o ∨ (o + 30 ≤ c ∧ c < o + 34)) I0 I_726 := hf_514.call fr_729 (fun c hc => by first | exact hc | (dsimp only at hc ⊢; omega) | omega)
                      have t_732 : (I_726 o 3).toInt = (I_511 o 3).toInt := by rw [kp_730 3 rfl]
                      have t_733 : (I_726 o 4).toInt = (I_511 o 4).toInt := by rw [kp_730 4 rfl]
                      have t_734 : (I_726 o 6).toInt = (I_511 o 6).toInt := by rw [kp_730 6 rfl]
                      have t_735 : (I_726 o 7).toInt = (I_511 o 7).toInt := by rw [kp_730 7 rfl]
                      have t_736 : (I_726 o 8).toInt = (I_511 o 8).toInt := by rw [kp_730 8 rfl]
                      have t_737 : (I_726 o 9).toInt = (I_511 o 9).toInt := by rw [kp_730 9 rfl]
                      have t_738 : (I_726 o 44).toInt = (I_511 o 44).toInt := by rw [kp_730 44 rfl]
                      have t_739 : (I_726 o 45).toInt = (I_511 o 45).toInt := by rw [kp_730 45 rfl]
                      have t_740 : (I_726 o 47).toInt = (I_511 o 47).toInt := by rw [kp_730 47 rfl]
                      have g_741 : (0 : Int) ≤ (I_726 o 48).toInt ∧ (I_726 o 48).toInt ≤ 80 := hR_728.at0 ra 48 (by decide)
                      have t_742 : (I_726 o 46).toInt = (I_511 o 46).toInt := by rw [kp_730 46 rfl]
                      have k_743 : MTd I_726 o := k_527.fr (fr_729 _ (by first | omega | (dsimp only; omega))) (fr_729 _ (by first | omega | (dsimp only; omega))) (fr_729 _ (by first | omega | (dsimp only; omega)))
                      have k_744 : MPo I_726 o := k_528.fr (kp_730 8 rfl) (kp_730 9 rfl)
                      have k_745 : MTk I_726 o := k_529.fr (kp_730 6 rfl) (kp_730 7 rfl) (kp_730 8 rfl)
                      have k_746 : EX 0 1 1 f0 1 I_726 o := by have z := EX.push k_526 (v := 7) (s := 0) (dB := 1) (dO := 0) (wt' := 1) (by decide) (by decide) (by decide) (by omega) ⟨by decide, by decide⟩ ⟨fun h => absurd h (by decide), fun h => absurd h (by decide)⟩ (Or.inl rfl) (fr_729 _ (by first | omega | (dsimp only; omega))) (fr_729 _ (by first | omega | (dsimp only; omega))) (fr_729 _ (by first | omega | (dsimp only; omega))) u_723 u_724 (kp_730 3 rfl) (kp_730 6 rfl) (kp_730 44 rfl) (kp_730 45 rfl) (kp_730 47 rfl) u_725; exact EX.chg (b' := 1) z rfl rfl rfl rfl rfl rfl rfl rfl rfl rfl (by omega) z.pl
                      have g_747 : (0 : Int) ≤ (I_726 o 47).toInt ∧ (I_726 o 47).toInt ≤ 7 := hR_728.at0 ra 47 (by decide)
                      have a_748 : ((I_726 o 47) + 1).toInt = (I_726 o 47).toInt + (1 : Int32).toInt := tAdd (by omega) (by omega)
                      refine fun I_749 e_750 => ?_
                      have hR_751 : RI R I_749 := hR_728.up0 (k := 47) ra (by decide) (Or.inr hz57) e_750 (show (0 : Int) ≤ ((I_726 o 47) + 1).toInt by omega) (show ((I_726 o 47) + 1).toInt ≤ (7 : Int) by omega)
                      have hf_752 : Fm (fun c => c = o ∨ (o + 30 ≤ c ∧ c < o + 34)) I0 I_749 := hf_731.set (by first | rfl | omega | (dsimp only; omega)) e_750
                      have t_753 : (I_749 o 3).toInt = (I_726 o 3).toInt := by rw [← e_750, q_u_k (by decide)]
                      have t_754 : (I_749 o 4).toInt = (I_726 o 4).toInt := by rw [← e_750, q_u_k (by decide)]
                      have t_755 : (I_749 o 6).toInt = (I_726 o 6).toInt := by rw [← e_750, q_u_k (by decide)]
                      have t_756 : (I_749 o 7).toInt = (I_726 o 7).toInt := by rw [← e_750, q_u_k (by decide)]
                      have t_757 : (I_749 o 8).toInt = (I_726 o 8).toInt := by rw [← e_750, q_u_k (by decide)]
                      have t_758 : (I_749 o 9).toInt = (I_726 o 9).toInt := by rw [← e_750, q_u_k (by decide)]
                      have t_759 : (I_749 o 44).toInt = (I_726 o 44).toInt := by rw [← e_750, q_u_k (by decide)]
                      have t_760 : (I_749 o 45).toInt = (I_726 o 45).toInt := by rw [← e_750, q_u_k (by decide)]
                      have t_761 : (I_749 o 47).toInt = ((I_726 o 47) + 1).toInt := by rw [← e_750, q_u_at]
                      have t_762 : (I_749 o 48).toInt = (I_726 o 48).toInt := by rw [← e_750, q_u_k (by decide)]
                      have t_763 : (I_749 o 46).toInt = (I_726 o 46).toInt := by rw [← e_750, q_u_k (by decide)]
                      have k_764 : MTd I_749 o := k_743.fr (by rw [← e_750]; exact q_u_ne (by omega)) (by rw [← e_750]; exact q_u_ne (by omega)) (by rw [← e_750]; exact q_u_ne (by omega))
                      have k_765 : MPo I_749 o := k_744.fr (by rw [← e_750, q_u_k (by decide)]) (by rw [← e_750, q_u_k (by decide)])
                      have k_766 : MTk I_749 o := k_745.fr (by rw [← e_750, q_u_k (by decide)]) (by rw [← e_750, q_u_k (by decide)]) (by rw [← e_750, q_u_k (by decide)])
                      have tk := k_766.2 (by omega)
                      have k_768 : EX 0 0 1 f0 1 I_749 o := by exact EX.put47 k_746 e_750 (by omega)
                      refine y_Model_next hok hw ra hz16 hz17 hz18 hz19 (by first | omega | (intro h; omega) | exact Or.inl rfl | exact Or.inr rfl) hR_751 (fun I_778 L_779 hR_780 fr_781 kp_782 u_770 u_771 u_772 u_773 u_774 u_775 u_776 u_777 => ⟨I_778, L_779, rfl, rfl, ?_⟩)
                      have hf_783 : Fm (fun c => c = o ∨ (o + 30 ≤ c ∧ c < o + 34)) I0 I_778 := hf_752.call fr_781 (fun c hc => by first | exact hc | (dsimp only at hc ⊢; omega) | omega)
                      have t_784 : (I_778 o 3).toInt = (I_749 o 3).toInt := by rw [kp_782 3 rfl]
                      have t_785 : (I_778 o 4).toInt = (I_749 o 4).toInt := by rw [kp_782 4 rfl]
                      have g_786 : (0 : Int) ≤ (I_778 o 6).toInt ∧ (I_778 o 6).toInt ≤ 1600 := hR_780.at0 ra 6 (by decide)
                      have g_787 : (0 : Int) ≤ (I_778 o 7).toInt ∧ (I_778 o 7).toInt ≤ 1601 := hR_780.at0 ra 7 (by decide)
                      have g_788 : (0 : Int) ≤ (I_778 o 8).toInt ∧ (I_778 o 8).toInt ≤ 6 := hR_780.at0 ra 8 (by decide)
                      have t_789 : (I_778 o 44).toInt = (I_749 o 44).toInt := by rw [kp_782 44 rfl]
                      have t_790 : (I_778 o 45).toInt = (I_749 o 45).toInt := by rw [kp_782 45 rfl]
                      have t_791 : (I_778 o 47).toInt = (I_749 o 47).toInt := by rw [kp_782 47 rfl]
                      have t_792 : (I_778 o 48).toInt = (I_749 o 48).toInt := by rw [kp_782 48 rfl]
                      have t_793 : (I_778 o 46).toInt = (I_749 o 46).toInt := by rw [kp_782 46 rfl]
                      have k_794 : MTd I_778 o := k_764.fr (fr_781 _ (by first | omega | (dsimp only; omega))) (fr_781 _ (by first | omega | (dsimp only; omega))) (fr_781 _ (by first | omega | (dsimp only; omega)))
                      have ms := u_773 (by omega)
                      have k_795 : EX 0 0 0 f0 1 I_778 o := by exact EX.nx k_768 (fr_781 _ (by first | omega | (dsimp only; omega))) (fr_781 _ (by first | omega | (dsimp only; omega))) (fr_781 _ (by first | omega | (dsimp only; omega))) (fr_781 _ (by first | omega | (dsimp only; omega))) (fr_781 _ (by first | omega | (dsimp only; omega))) (kp_782 3 rfl) (kp_782 44 rfl) (kp_782 45 rfl) (kp_782 47 rfl) (kp_782 48 rfl) (by omega) (by omega)
                      exact (hp _ _ _ hR_780 hf_783 (Or.inr rfl) (by first | omega | (intro h; omega) | exact Or.inl rfl | exact Or.inr rfl) (by first | omega | (intro h; omega) | exact Or.inl rfl | exact Or.inr rfl) (by first | omega | (intro h; omega) | exact Or.inl rfl | exact Or.inr rfl) (by first | omega | (intro h; omega) | exact Or.inl rfl | exact Or.inr rfl) (by first | omega | (intro h; omega) | exact Or.inl rfl | exact Or.inr rfl) (by first | (intro h; exfalso; omega) | exact fun _ => k_795 | exact fun _ => (False.elim (by omega))) k_794 u_776 u_777)
                    · have d_796 := iEq c_719
                      have i_797 := u_717 (by omega)
                      exact (hp _ _ _ hR_513 hf_514 (Or.inr rfl) (by first | omega | (intro h; omega) | exact Or.inl rfl | exact Or.inr rfl) (by first | omega | (intro h; omega) | exact Or.inl rfl | exact Or.inr rfl) (by first | omega | (intro h; omega) | exact Or.inl rfl | exact Or.inr rfl) (by first | omega | (intro h; omega) | exact Or.inl rfl | exact Or.inr rfl) (by first | omega | (intro h; omega) | exact Or.inl rfl | exact Or.inr rfl) (by first | (intro h; exfalso; omega) | exact fun _ => k_526 | exact fun _ => (False.elim (by omega))) k_527 k_528 k_529)
                  · have d_798 := iEq c_712
                    refine y_Model_wrong hok hw ra hz14 hz15 hR_513 (fun I_802 L_803 hR_804 fr_805 kp_806 u_800 u_801 => ⟨I_802, L_803, rfl, rfl, ?_⟩)
                    have hf_807 : Fm (fun c => c = o ∨ (o + 30 ≤ c ∧ c < o + 34)) I0 I_802 := hf_514.call fr_805 (fun c hc => by first | exact hc | (dsimp only at hc ⊢; omega) | omega)
                    have t_808 : (I_802 o 3).toInt = (I_511 o 3).toInt := by rw [kp_806 3 rfl]
                    have g_809 : (0 : Int) ≤ (I_802 o 4).toInt ∧ (I_802 o 4).toInt ≤ 5 := hR_804.at0 ra 4 (by decide)
                    have t_810 : (I_802 o 6).toInt = (I_511 o 6).toInt := by rw [kp_806 6 rfl]
                    have t_811 : (I_802 o 7).toInt = (I_511 o 7).toInt := by rw [kp_806 7 rfl]
                    have t_812 : (I_802 o 8).toInt = (I_511 o 8).toInt := by rw [kp_806 8 rfl]
                    have t_813 : (I_802 o 9).toInt = (I_511 o 9).toInt := by rw [kp_806 9 rfl]
                    have t_814 : (I_802 o 44).toInt = (I_511 o 44).toInt := by rw [kp_806 44 rfl]
                    have t_815 : (I_802 o 45).toInt = (I_511 o 45).toInt := by rw [kp_806 45 rfl]
                    have t_816 : (I_802 o 47).toInt = (I_511 o 47).toInt := by rw [kp_806 47 rfl]
                    have t_817 : (I_802 o 48).toInt = (I_511 o 48).toInt := by rw [kp_806 48 rfl]
                    have t_818 : (I_802 o 46).toInt = (I_511 o 46).toInt := by rw [kp_806 46 rfl]
                    have k_819 : EX 0 0 0 f0 1 I_802 o := k_526.fr (fr_805 _ (by first | omega | (dsimp only; omega))) (fr_805 _ (by first | omega | (dsimp only; omega))) (fr_805 _ (by first | omega | (dsimp only; omega))) (fr_805 _ (by first | omega | (dsimp only; omega))) (fr_805 _ (by first | omega | (dsimp only; omega))) (kp_806 3 rfl) (kp_806 6 rfl) (kp_806 44 rfl) (kp_806 45 rfl) (kp_806 47 rfl) (kp_806 48 rfl)
                    have k_820 : MTd I_802 o := k_527.fr (fr_805 _ (by first | omega | (dsimp only; omega))) (fr_805 _ (by first | omega | (dsimp only; omega))) (fr_805 _ (by first | omega | (dsimp only; omega)))
                    have k_821 : MPo I_802 o := k_528.fr (kp_806 8 rfl) (kp_806 9 rfl)
                    have k_822 : MTk I_802 o := k_529.fr (kp_806 6 rfl) (kp_806 7 rfl) (kp_806 8 rfl)
                    refine y_Model_isGood hok hw ra hR_804 (fun r_823 u_824 u_825 u_826 => ⟨r_823, I_802, L_803, rfl, rfl, ?_⟩)
                    have b_827 : 0 ≤ r_823.toInt ∧ r_823.toInt ≤ 1 := u_824.rg
                    refine ⟨fun c_828 => ?_, fun c_828 => ?_⟩
                    · have d_829 := iNe c_828
                      have i_830 := u_825 (by omega)
                      refine y_Model_pile hok hw ra hz58 (by first | omega | (intro h; omega) | exact Or.inl rfl | exact Or.inr rfl) (by first | omega | (intro h; omega) | exact Or.inl rfl | exact Or.inr rfl) hR_804 (fun I_835 L_836 hR_837 fr_838 kp_839 u_832 u_833 u_834 => ⟨I_835, L_836, rfl, rfl, ?_⟩)
                      have hf_840 : Fm (fun c => c = o ∨ (o + 30 ≤ c ∧ c < o + 34)) I0 I_835 := hf_807.call fr_838 (fun c hc => by first | exact hc | (dsimp only at hc ⊢; omega) | omega)
                      have t_841 : (I_835 o 3).toInt = (I_802 o 3).toInt := by rw [kp_839 3 rfl]
                      have t_842 : (I_835 o 4).toInt = (I_802 o 4).toInt := by rw [kp_839 4 rfl]
                      have t_843 : (I_835 o 6).toInt = (I_802 o 6).toInt := by rw [kp_839 6 rfl]
                      have t_844 : (I_835 o 7).toInt = (I_802 o 7).toInt := by rw [kp_839 7 rfl]
                      have t_845 : (I_835 o 8).toInt = (I_802 o 8).toInt := by rw [kp_839 8 rfl]
                      have t_846 : (I_835 o 9).toInt = (I_802 o 9).toInt := by rw [kp_839 9 rfl]
                      have t_847 : (I_835 o 44).toInt = (I_802 o 44).toInt := by rw [kp_839 44 rfl]
                      have t_848 : (I_835 o 45).toInt = (I_802 o 45).toInt := by rw [kp_839 45 rfl]
                      have t_849 : (I_835 o 47).toInt = (I_802 o 47).toInt := by rw [kp_839 47 rfl]
                      have g_850 : (0 : Int) ≤ (I_835 o 48).toInt ∧ (I_835 o 48).toInt ≤ 80 := hR_837.at0 ra 48 (by decide)
                      have t_851 : (I_835 o 46).toInt = (I_802 o 46).toInt := by rw [kp_839 46 rfl]
                      have k_852 : MTd I_835 o := k_820.fr (fr_838 _ (by first | omega | (dsimp only; omega))) (fr_838 _ (by first | omega | (dsimp only; omega))) (fr_838 _ (by first | omega | (dsimp only; omega)))
                      have k_853 : MPo I_835 o := k_821.fr (kp_839 8 rfl) (kp_839 9 rfl)
                      have k_854 : MTk I_835 o := k_822.fr (kp_839 6 rfl) (kp_839 7 rfl) (kp_839 8 rfl)
                      have k_855 : EX 0 1 1 f0 1 I_835 o := by have z := EX.push k_819 (v := 7) (s := 0) (dB := 1) (dO := 0) (wt' := 1) (by decide) (by decide) (by decide) (by omega) ⟨by decide, by decide⟩ ⟨fun h => absurd h (by decide), fun h => absurd h (by decide)⟩ (Or.inl rfl) (fr_838 _ (by first | omega | (dsimp only; omega))) (fr_838 _ (by first | omega | (dsimp only; omega))) (fr_838 _ (by first | omega | (dsimp only; omega))) u_832 u_833 (kp_839 3 rfl) (kp_839 6 rfl) (kp_839 44 rfl) (kp_839 45 rfl) (kp_839 47 rfl) u_834; exact EX.chg (b' := 1) z rfl rfl rfl rfl rfl rfl rfl rfl rfl rfl (by omega) z.pl
                      have g_856 : (0 : Int) ≤ (I_835 o 47).toInt ∧ (I_835 o 47).toInt ≤ 7 := hR_837.at0 ra 47 (by decide)
                      have a_857 : ((I_835 o 47) + 1).toInt = (I_835 o 47).toInt + (1 : Int32).toInt := tAdd (by omega) (by omega)
                      refine fun I_858 e_859 => ?_
                      have hR_860 : RI R I_858 := hR_837.up0 (k := 47) ra (by decide) (Or.inr hz57) e_859 (show (0 : Int) ≤ ((I_835 o 47) + 1).toInt by omega) (show ((I_835 o 47) + 1).toInt ≤ (7 : Int) by omega)
                      have hf_861 : Fm (fun c => c = o ∨ (o + 30 ≤ c ∧ c < o + 34)) I0 I_858 := hf_840.set (by first | rfl | omega | (dsimp only; omega)) e_859
                      have t_862 : (I_858 o 3).toInt = (I_835 o 3).toInt := by rw [← e_859, q_u_k (by decide)]
                      have t_863 : (I_858 o 4).toInt = (I_835 o 4).toInt := by rw [← e_859, q_u_k (by decide)]
                      have t_864 : (I_858 o 6).toInt = (I_835 o 6).toInt := by rw [← e_859, q_u_k (by decide)]
                      have t_865 : (I_858 o 7).toInt = (I_835 o 7).toInt := by rw [← e_859, q_u_k (by decide)]
                      have t_866 : (I_858 o 8).toInt = (I_835 o 8).toInt := by rw [← e_859, q_u_k (by decide)]
                      have t_867 : (I_858 o 9).toInt = (I_835 o 9).toInt := by rw [← e_859, q_u_k (by decide)]
                      have t_868 : (I_858 o 44).toInt = (I_835 o 44).toInt := by rw [← e_859, q_u_k (by decide)]
                      have t_869 : (I_858 o 45).toInt = (I_835 o 45).toInt := by rw [← e_859, q_u_k (by decide)]
                      have t_870 : (I_858 o 47).toInt = ((I_835 o 47) + 1).toInt := by rw [← e_859, q_u_at]
                      have t_871 : (I_858 o 48).toInt = (I_835 o 48).toInt := by rw [← e_859, q_u_k (by decide)]
                      have t_872 : (I_858 o 46).toInt = (I_835 o 46).toInt := by rw [← e_859, q_u_k (by decide)]
                      have k_873 : MTd I_858 o := k_852.fr (by rw [← e_859]; exact q_u_ne (by omega)) (by rw [← e_859]; exact q_u_ne (by omega)) (by rw [← e_859]; exact q_u_ne (by omega))
                      have k_874 : MPo I_858 o := k_853.fr (by rw [← e_859, q_u_k (by decide)]) (by rw [← e_859, q_u_k (by decide)])
                      have k_875 : MTk I_858 o := k_854.fr (by rw [← e_859, q_u_k (by decide)]) (by rw [← e_859, q_u_k (by decide)]) (by rw [← e_859, q_u_k (by decide)])
                      have tk := k_875.2 (by omega)
                      have k_877 : EX 0 0 1 f0 1 I_858 o := by exact EX.put47 k_855 e_859 (by omega)
                      refine y_Model_next hok hw ra hz16 hz17 hz18 hz19 (by first | omega | (intro h; omega) | exact Or.inl rfl | exact Or.inr rfl) hR_860 (fun I_887 L_888 hR_889 fr_890 kp_891 u_879 u_880 u_881 u_882 u_883 u_884 u_885 u_886 => ⟨I_887, L_888, rfl, rfl, ?_⟩)
                      have hf_892 : Fm (fun c => c = o ∨ (o + 30 ≤ c ∧ c < o + 34)) I0 I_887 := hf_861.call fr_890 (fun c hc => by first | exact hc | (dsimp only at hc ⊢; omega) | omega)
                      have t_893 : (I_887 o 3).toInt = (I_858 o 3).toInt := by rw [kp_891 3 rfl]
                      have t_894 : (I_887 o 4).toInt = (I_858 o 4).toInt := by rw [kp_891 4 rfl]
                      have g_895 : (0 : Int) ≤ (I_887 o 6).toInt ∧ (I_887 o 6).toInt ≤ 1600 := hR_889.at0 ra 6 (by decide)
                      have g_896 : (0 : Int) ≤ (I_887 o 7).toInt ∧ (I_887 o 7).toInt ≤ 1601 := hR_889.at0 ra 7 (by decide)
                      have g_897 : (0 : Int) ≤ (I_887 o 8).toInt ∧ (I_887 o 8).toInt ≤ 6 := hR_889.at0 ra 8 (by decide)
                      have t_898 : (I_887 o 44).toInt = (I_858 o 44).toInt := by rw [kp_891 44 rfl]
                      have t_899 : (I_887 o 45).toInt = (I_858 o 45).toInt := by rw [kp_891 45 rfl]
                      have t_900 : (I_887 o 47).toInt = (I_858 o 47).toInt := by rw [kp_891 47 rfl]
                      have t_901 : (I_887 o 48).toInt = (I_858 o 48).toInt := by rw [kp_891 48 rfl]
                      have t_902 : (I_887 o 46).toInt = (I_858 o 46).toInt := by rw [kp_891 46 rfl]
                      have k_903 : MTd I_887 o := k_873.fr (fr_890 _ (by first | omega | (dsimp only; omega))) (fr_890 _ (by first | omega | (dsimp only; omega))) (fr_890 _ (by first | omega | (dsimp only; omega)))
                      have ms := u_882 (by omega)
                      have k_904 : EX 0 0 0 f0 1 I_887 o := by exact EX.nx k_877 (fr_890 _ (by first | omega | (dsimp only; omega))) (fr_890 _ (by first | omega | (dsimp only; omega))) (fr_890 _ (by first | omega | (dsimp only; omega))) (fr_890 _ (by first | omega | (dsimp only; omega))) (fr_890 _ (by first | omega | (dsimp only; omega))) (kp_891 3 rfl) (kp_891 44 rfl) (kp_891 45 rfl) (kp_891 47 rfl) (kp_891 48 rfl) (by omega) (by omega)
                      exact (hp _ _ _ hR_889 hf_892 (Or.inr rfl) (by first | omega | (intro h; omega) | exact Or.inl rfl | exact Or.inr rfl) (by first | omega | (intro h; omega) | exact Or.inl rfl | exact Or.inr rfl) (by first | omega | (intro h; omega) | exact Or.inl rfl | exact Or.inr rfl) (by first | omega | (intro h; omega) | exact Or.inl rfl | exact Or.inr rfl) (by first | omega | (intro h; omega) | exact Or.inl rfl | exact Or.inr rfl) (by first | (intro h; exfalso; omega) | exact fun _ => k_904 | exact fun _ => (False.elim (by omega))) k_903 u_885 u_886)
                    · have d_905 := iEq c_828
                      have i_906 := u_826 (by omega)
                      exact (hp _ _ _ hR_804 hf_807 (Or.inr rfl) (by first | omega | (intro h; omega) | exact Or.inl rfl | exact Or.inr rfl) (by first | omega | (intro h; omega) | exact Or.inl rfl | exact Or.inr rfl) (by first | omega | (intro h; omega) | exact Or.inl rfl | exact Or.inr rfl) (by first | omega | (intro h; omega) | exact Or.inl rfl | exact Or.inr rfl) (by first | omega | (intro h; omega) | exact Or.inl rfl | exact Or.inr rfl) (by first | (intro h; exfalso; omega) | exact fun _ => k_819 | exact fun _ => (False.elim (by omega))) k_820 k_821 k_822)
              · have d_907 := iEq c_506
                have i_908 := u_504 (by omega)
                exact (hp _ _ _ hR_482 hf_485 (Or.inr rfl) (by first | omega | (intro h; omega) | exact Or.inl rfl | exact Or.inr rfl) (by first | omega | (intro h; omega) | exact Or.inl rfl | exact Or.inr rfl) (by first | omega | (intro h; omega) | exact Or.inl rfl | exact Or.inr rfl) (by first | omega | (intro h; omega) | exact Or.inl rfl | exact Or.inr rfl) (by first | omega | (intro h; omega) | exact Or.inl rfl | exact Or.inr rfl) (by first | (intro h; exfalso; omega) | exact fun _ => k_497 | exact fun _ => (False.elim (by omega))) k_498 k_499 k_500)
          · have d_909 := iEq c_60
            have g_910 : (0 : Int) ≤ (I_32 o 8).toInt ∧ (I_32 o 8).toInt ≤ 6 := hR_34.at0 ra 8 (by decide)
            have l_911 : (4 : Int32).toInt = 4 := rfl
            refine ⟨fun c_912 => ?_, fun c_912 => ?_⟩
            · have d_913 := iEq c_912
              unfold fModel_unit_131
              have g_914 : (0 : Int) ≤ (I_32 o 46).toInt ∧ (I_32 o 46).toInt ≤ 100 := hR_34.at0 ra 46 (by decide)
              have l_915 : (100 : Int32).toInt = 100 := rfl
              refine ⟨fun c_916 => ?_, fun c_916 => ?_⟩
              · have d_917 := iNe c_916
                refine y_Model_isGood hok hw ra hR_34 (fun r_918 u_919 u_920 u_921 => ⟨r_918, I_32, L_33, rfl, rfl, ?_⟩)
                have b_922 : 0 ≤ r_918.toInt ∧ r_918.toInt ≤ 1 := u_919.rg
                refine ⟨fun c_923 => ?_, fun c_923 => ?_⟩
                · have d_924 := iNe c_923
                  have i_925 := u_920 (by omega)
                  have g_926 : (0 : Int) ≤ (I_32 o 46).toInt ∧ (I_32 o 46).toInt ≤ 100 := hR_34.at0 ra 46 (by decide)
                  have a_927 : ((I_32 o 46) + 1).toInt = (I_32 o 46).toInt + (1 : Int32).toInt := tAdd (by omega) (by omega)
                  refine fun I_928 e_929 => ?_
                  have hR_930 : RI R I_928 := hR_34.up0 (k := 46) ra (by decide) (Or.inr hz56) e_929 (show (0 : Int) ≤ ((I_32 o 46) + 1).toInt by omega) (show ((I_32 o 46) + 1).toInt ≤ (100 : Int) by omega)
                  have hf_931 : Fm (fun c => c = o ∨ (o + 30 ≤ c ∧ c < o + 34)) I0 I_928 := hf_37.set (by first | rfl | omega | (dsimp only; omega)) e_929
                  have t_932 : (I_928 o 3).toInt = (I_32 o 3).toInt := by rw [← e_929, q_u_k (by decide)]
                  have t_933 : (I_928 o 4).toInt = (I_32 o 4).toInt := by rw [← e_929, q_u_k (by decide)]
                  have t_934 : (I_928 o 6).toInt = (I_32 o 6).toInt := by rw [← e_929, q_u_k (by decide)]
                  have t_935 : (I_928 o 7).toInt = (I_32 o 7).toInt := by rw [← e_929, q_u_k (by decide)]
                  have t_936 : (I_928 o 8).toInt = (I_32 o 8).toInt := by rw [← e_929, q_u_k (by decide)]
                  have t_937 : (I_928 o 9).toInt = (I_32 o 9).toInt := by rw [← e_929, q_u_k (by decide)]
                  have t_938 : (I_928 o 44).toInt = (I_32 o 44).toInt := by rw [← e_929, q_u_k (by decide)]
                  have t_939 : (I_928 o 45).toInt = (I_32 o 45).toInt := by rw [← e_929, q_u_k (by decide)]
                  have t_940 : (I_928 o 47).toInt = (I_32 o 47).toInt := by rw [← e_929, q_u_k (by decide)]
                  have t_941 : (I_928 o 48).toInt = (I_32 o 48).toInt := by rw [← e_929, q_u_k (by decide)]
                  have t_942 : (I_928 o 46).toInt = ((I_32 o 46) + 1).toInt := by rw [← e_929, q_u_at]
                  have k_943 : EX 0 0 0 f0 1 I_928 o := k_48.fr (by rw [← e_929]; exact q_u_ne (by omega)) (by rw [← e_929]; exact q_u_ne (by omega)) (by rw [← e_929]; exact q_u_ne (by omega)) (by rw [← e_929]; exact q_u_ne (by omega)) (by rw [← e_929]; exact q_u_ne (by omega)) (by rw [← e_929, q_u_k (by decide)]) (by rw [← e_929, q_u_k (by decide)]) (by rw [← e_929, q_u_k (by decide)]) (by rw [← e_929, q_u_k (by decide)]) (by rw [← e_929, q_u_k (by decide)]) (by rw [← e_929, q_u_k (by decide)])
                  have k_944 : MTd I_928 o := k_49.fr (by rw [← e_929]; exact q_u_ne (by omega)) (by rw [← e_929]; exact q_u_ne (by omega)) (by rw [← e_929]; exact q_u_ne (by omega))
                  have k_945 : MPo I_928 o := k_50.fr (by rw [← e_929, q_u_k (by decide)]) (by rw [← e_929, q_u_k (by decide)])
                  have k_946 : MTk I_928 o := k_51.fr (by rw [← e_929, q_u_k (by decide)]) (by rw [← e_929, q_u_k (by decide)]) (by rw [← e_929, q_u_k (by decide)])
                  have l_947 : (40 : Int32).toInt = 40 := rfl
                  refine y_Model_is hok hw ra hR_930 (fun r_948 u_949 u_950 u_951 => ⟨r_948, I_928, L_33, rfl, rfl, ?_⟩)
                  have b_952 : 0 ≤ r_948.toInt ∧ r_948.toInt ≤ 1 := u_949.rg
                  refine ⟨fun c_953 => ?_, fun c_953 => ?_⟩
                  · have d_954 := iEq c_953
                    have cd := k_943.cod
                    have tk := k_946.2 (by omega)
                    refine ⟨fun c_955 => ?_, fun c_955 => ?_⟩
                    · have d_956 := iNe c_955
                      have i_957 := u_29 (by omega)
                      have i_958 := u_30 (by omega)
                      exfalso; omega
                    · have d_959 := iEq c_955
                      unfold fModel_unit_228
                      have l_960 : (78 : Int32).toInt = 78 := rfl
                      refine ⟨fun c_961 => ?_, fun c_961 => ?_⟩
                      · have d_962 := iNe c_961
                        have i_963 := u_29 (by omega)
                        have i_964 := u_30 (by omega)
                        exfalso; omega
                      · have d_965 := iEq c_961
                        refine y_Model_step hok hw ra hz55 (by first | omega | (intro h; omega) | exact Or.inl rfl | exact Or.inr rfl) (by first | omega | (intro h; omega) | exact Or.inl rfl | exact Or.inr rfl) hR_930 (fun I_969 L_970 hR_971 fr_972 kp_973 u_967 u_968 => ⟨I_969, L_970, rfl, rfl, ?_⟩)
                        have hf_974 : Fm (fun c => c = o ∨ (o + 30 ≤ c ∧ c < o + 34)) I0 I_969 := hf_931.call fr_972 (fun c hc => by first | exact hc | (dsimp only at hc ⊢; omega) | omega)
                        have t_975 : (I_969 o 3).toInt = (I_928 o 3).toInt := by rw [kp_973 3 rfl]
                        have t_976 : (I_969 o 4).toInt = (I_928 o 4).toInt := by rw [kp_973 4 rfl]
                        have t_977 : (I_969 o 6).toInt = (I_928 o 6).toInt := by rw [kp_973 6 rfl]
                        have t_978 : (I_969 o 7).toInt = (I_928 o 7).toInt := by rw [kp_973 7 rfl]
                        have t_979 : (I_969 o 8).toInt = (I_928 o 8).toInt := by rw [kp_973 8 rfl]
                        have t_980 : (I_969 o 9).toInt = (I_928 o 9).toInt := by rw [kp_973 9 rfl]
                        have t_981 : (I_969 o 44).toInt = (I_928 o 44).toInt := by rw [kp_973 44 rfl]
                        have g_982 : (0 : Int) ≤ (I_969 o 45).toInt ∧ (I_969 o 45).toInt ≤ 700 := hR_971.at0 ra 45 (by decide)
                        have t_983 : (I_969 o 47).toInt = (I_928 o 47).toInt := by rw [kp_973 47 rfl]
                        have t_984 : (I_969 o 48).toInt = (I_928 o 48).toInt := by rw [kp_973 48 rfl]
                        have t_985 : (I_969 o 46).toInt = (I_928 o 46).toInt := by rw [kp_973 46 rfl]
                        have k_986 : MPo I_969 o := k_945.fr (kp_973 8 rfl) (kp_973 9 rfl)
                        have k_987 : MTk I_969 o := k_946.fr (kp_973 6 rfl) (kp_973 7 rfl) (kp_973 8 rfl)
                        have tk := k_987.2 (by omega)
                        have k_988 : EX 0 0 1 f0 0 I_969 o := by exact EX.step1 k_943 (by first | exact u_29 (by omega) | (unfold isT; decide)) (by omega) (fr_972 _ (by first | omega | (dsimp only; omega))) (fr_972 _ (by first | omega | (dsimp only; omega))) u_967 (fr_972 _ (by first | omega | (dsimp only; omega))) (fr_972 _ (by first | omega | (dsimp only; omega))) (kp_973 3 rfl) (kp_973 6 rfl) (kp_973 44 rfl) u_968 (kp_973 47 rfl) (kp_973 48 rfl)
                        have k_989 : MTd I_969 o := by exact MTd.step k_944 (fr_972 _ (by first | omega | (dsimp only; omega))) (fr_972 _ (by first | omega | (dsimp only; omega))) u_967 (by omega)
                        refine y_Model_next hok hw ra hz16 hz17 hz18 hz19 (by first | omega | (intro h; omega) | exact Or.inl rfl | exact Or.inr rfl) hR_971 (fun I_999 L_1000 hR_1001 fr_1002 kp_1003 u_991 u_992 u_993 u_994 u_995 u_996 u_997 u_998 => ⟨I_999, L_1000, rfl, rfl, ?_⟩)
                        have hf_1004 : Fm (fun c => c = o ∨ (o + 30 ≤ c ∧ c < o + 34)) I0 I_999 := hf_974.call fr_1002 (fun c hc => by first | exact hc | (dsimp only at hc ⊢; omega) | omega)
                        have t_1005 : (I_999 o 3).toInt = (I_969 o 3).toInt := by rw [kp_1003 3 rfl]
                        have t_1006 : (I_999 o 4).toInt = (I_969 o 4).toInt := by rw [kp_1003 4 rfl]
                        have g_1007 : (0 : Int) ≤ (I_999 o 6).toInt ∧ (I_999 o 6).toInt ≤ 1600 := hR_1001.at0 ra 6 (by decide)
                        have g_1008 : (0 : Int) ≤ (I_999 o 7).toInt ∧ (I_999 o 7).toInt ≤ 1601 := hR_1001.at0 ra 7 (by decide)
                        have g_1009 : (0 : Int) ≤ (I_999 o 8).toInt ∧ (I_999 o 8).toInt ≤ 6 := hR_1001.at0 ra 8 (by decide)
                        have t_1010 : (I_999 o 44).toInt = (I_969 o 44).toInt := by rw [kp_1003 44 rfl]
                        have t_1011 : (I_999 o 45).toInt = (I_969 o 45).toInt := by rw [kp_1003 45 rfl]
                        have t_1012 : (I_999 o 47).toInt = (I_969 o 47).toInt := by rw [kp_1003 47 rfl]
                        have t_1013 : (I_999 o 48).toInt = (I_969 o 48).toInt := by rw [kp_1003 48 rfl]
                        have t_1014 : (I_999 o 46).toInt = (I_969 o 46).toInt := by rw [kp_1003 46 rfl]
                        have k_1015 : MTd I_999 o := k_989.fr (fr_1002 _ (by first | omega | (dsimp only; omega))) (fr_1002 _ (by first | omega | (dsimp only; omega))) (fr_1002 _ (by first | omega | (dsimp only; omega)))
                        have ms := u_994 (by omega)
                        have k_1016 : EX 0 0 0 f0 0 I_999 o := by exact EX.nx k_988 (fr_1002 _ (by first | omega | (dsimp only; omega))) (fr_1002 _ (by first | omega | (dsimp only; omega))) (fr_1002 _ (by first | omega | (dsimp only; omega))) (fr_1002 _ (by first | omega | (dsimp only; omega))) (fr_1002 _ (by first | omega | (dsimp only; omega))) (kp_1003 3 rfl) (kp_1003 44 rfl) (kp_1003 45 rfl) (kp_1003 47 rfl) (kp_1003 48 rfl) (by omega) (by omega)
                        exact (hp _ _ _ hR_1001 hf_1004 (Or.inl rfl) (by first | omega | (intro h; omega) | exact Or.inl rfl | exact Or.inr rfl) (by first | omega | (intro h; omega) | exact Or.inl rfl | exact Or.inr rfl) (by first | omega | (intro h; omega) | exact Or.inl rfl | exact Or.inr rfl) (by first | omega | (intro h; omega) | exact Or.inl rfl | exact Or.inr rfl) (by first | omega | (intro h; omega) | exact Or.inl rfl | exact Or.inr rfl) (by first | (intro h; exfalso; omega) | exact fun _ => (False.elim (by omega)) | exact fun _ => k_1016) k_1015 u_997 u_998)
                  · have d_1017 := iNe c_953
                    have i_1018 := u_950 (by omega)
                    have i_1019 := u_951 (by omega)
                    have g_1020 : (0 : Int) ≤ (I_928 o 47).toInt ∧ (I_928 o 47).toInt ≤ 7 := hR_930.at0 ra 47 (by decide)
                    have l_1021 : (7 : Int32).toInt = 7 := rfl
                    refine ⟨fun c_1022 => ?_, fun c_1022 => ?_⟩
                    · have d_1023 := iNe c_1022
                      refine y_Model_isGood hok hw ra hR_930 (fun r_1024 u_1025 u_1026 u_1027 => ⟨r_1024, I_928, L_33, rfl, rfl, ?_⟩)
                      have b_1028 : 0 ≤ r_1024.toInt ∧ r_1024.toInt ≤ 1 := u_1025.rg
                      refine ⟨fun c_1029 => ?_, fun c_1029 => ?_⟩
                      · have d_1030 := iNe c_1029
                        have i_1031 := u_1026 (by omega)
                        refine y_Model_pile hok hw ra hz58 (by first | omega | (intro h; omega) | exact Or.inl rfl | exact Or.inr rfl) (by first | omega | (intro h; omega) | exact Or.inl rfl | exact Or.inr rfl) hR_930 (fun I_1036 L_1037 hR_1038 fr_1039 kp_1040 u_1033 u_1034 u_1035 => ⟨I_1036, L_1037, rfl, rfl, ?_⟩)
                        have hf_1041 : Fm (fun c => c = o ∨ (o + 30 ≤ c ∧ c < o + 34)) I0 I_1036 := hf_931.call fr_1039 (fun c hc => by first | exact hc | (dsimp only at hc ⊢; omega) | omega)
                        have t_1042 : (I_1036 o 3).toInt = (I_928 o 3).toInt := by rw [kp_1040 3 rfl]
                        have t_1043 : (I_1036 o 4).toInt = (I_928 o 4).toInt := by rw [kp_1040 4 rfl]
                        have t_1044 : (I_1036 o 6).toInt = (I_928 o 6).toInt := by rw [kp_1040 6 rfl]
                        have t_1045 : (I_1036 o 7).toInt = (I_928 o 7).toInt := by rw [kp_1040 7 rfl]
                        have t_1046 : (I_1036 o 8).toInt = (I_928 o 8).toInt := by rw [kp_1040 8 rfl]
                        have t_1047 : (I_1036 o 9).toInt = (I_928 o 9).toInt := by rw [kp_1040 9 rfl]
                        have t_1048 : (I_1036 o 44).toInt = (I_928 o 44).toInt := by rw [kp_1040 44 rfl]
                        have t_1049 : (I_1036 o 45).toInt = (I_928 o 45).toInt := by rw [kp_1040 45 rfl]
                        have t_1050 : (I_1036 o 47).toInt = (I_928 o 47).toInt := by rw [kp_1040 47 rfl]
                        have g_1051 : (0 : Int) ≤ (I_1036 o 48).toInt ∧ (I_1036 o 48).toInt ≤ 80 := hR_1038.at0 ra 48 (by decide)
                        have t_1052 : (I_1036 o 46).toInt = (I_928 o 46).toInt := by rw [kp_1040 46 rfl]
                        have k_1053 : MTd I_1036 o := k_944.fr (fr_1039 _ (by first | omega | (dsimp only; omega))) (fr_1039 _ (by first | omega | (dsimp only; omega))) (fr_1039 _ (by first | omega | (dsimp only; omega)))
                        have k_1054 : MPo I_1036 o := k_945.fr (kp_1040 8 rfl) (kp_1040 9 rfl)
                        have k_1055 : MTk I_1036 o := k_946.fr (kp_1040 6 rfl) (kp_1040 7 rfl) (kp_1040 8 rfl)
                        have k_1056 : EX 0 1 1 f0 1 I_1036 o := by have z := EX.push k_943 (v := 7) (s := 0) (dB := 1) (dO := 0) (wt' := 1) (by decide) (by decide) (by decide) (by omega) ⟨by decide, by decide⟩ ⟨fun h => absurd h (by decide), fun h => absurd h (by decide)⟩ (Or.inl rfl) (fr_1039 _ (by first | omega | (dsimp only; omega))) (fr_1039 _ (by first | omega | (dsimp only; omega))) (fr_1039 _ (by first | omega | (dsimp only; omega))) u_1033 u_1034 (kp_1040 3 rfl) (kp_1040 6 rfl) (kp_1040 44 rfl) (kp_1040 45 rfl) (kp_1040 47 rfl) u_1035; exact EX.chg (b' := 1) z rfl rfl rfl rfl rfl rfl rfl rfl rfl rfl (by omega) z.pl
                        have g_1057 : (0 : Int) ≤ (I_1036 o 47).toInt ∧ (I_1036 o 47).toInt ≤ 7 := hR_1038.at0 ra 47 (by decide)
                        have a_1058 : ((I_1036 o 47) + 1).toInt = (I_1036 o 47).toInt + (1 : Int32).toInt := tAdd (by omega) (by omega)
                        refine fun I_1059 e_1060 => ?_
                        have hR_1061 : RI R I_1059 := hR_1038.up0 (k := 47) ra (by decide) (Or.inr hz57) e_1060 (show (0 : Int) ≤ ((I_1036 o 47) + 1).toInt by omega) (show ((I_1036 o 47) + 1).toInt ≤ (7 : Int) by omega)
                        have hf_1062 : Fm (fun c => c = o ∨ (o + 30 ≤ c ∧ c < o + 34)) I0 I_1059 := hf_1041.set (by first | rfl | omega | (dsimp only; omega)) e_1060
                        have t_1063 : (I_1059 o 3).toInt = (I_1036 o 3).toInt := by rw [← e_1060, q_u_k (by decide)]
                        have t_1064 : (I_1059 o 4).toInt = (I_1036 o 4).toInt := by rw [← e_1060, q_u_k (by decide)]
                        have t_1065 : (I_1059 o 6).toInt = (I_1036 o 6).toInt := by rw [← e_1060, q_u_k (by decide)]
                        have t_1066 : (I_1059 o 7).toInt = (I_1036 o 7).toInt := by rw [← e_1060, q_u_k (by decide)]
                        have t_1067 : (I_1059 o 8).toInt = (I_1036 o 8).toInt := by rw [← e_1060, q_u_k (by decide)]
                        have t_1068 : (I_1059 o 9).toInt = (I_1036 o 9).toInt := by rw [← e_1060, q_u_k (by decide)]
                        have t_1069 : (I_1059 o 44).toInt = (I_1036 o 44).toInt := by rw [← e_1060, q_u_k (by decide)]
                        have t_1070 : (I_1059 o 45).toInt = (I_1036 o 45).toInt := by rw [← e_1060, q_u_k (by decide)]
                        have t_1071 : (I_1059 o 47).toInt = ((I_1036 o 47) + 1).toInt := by rw [← e_1060, q_u_at]
                        have t_1072 : (I_1059 o 48).toInt = (I_1036 o 48).toInt := by rw [← e_1060, q_u_k (by decide)]
                        have t_1073 : (I_1059 o 46).toInt = (I_1036 o 46).toInt := by rw [← e_1060, q_u_k (by decide)]
                        have k_1074 : MTd I_1059 o := k_1053.fr (by rw [← e_1060]; exact q_u_ne (by omega)) (by rw [← e_1060]; exact q_u_ne (by omega)) (by rw [← e_1060]; exact q_u_ne (by omega))
                        have k_1075 : MPo I_1059 o := k_1054.fr (by rw [← e_1060, q_u_k (by decide)]) (by rw [← e_1060, q_u_k (by decide)])
                        have k_1076 : MTk I_1059 o := k_1055.fr (by rw [← e_1060, q_u_k (by decide)]) (by rw [← e_1060, q_u_k (by decide)]) (by rw [← e_1060, q_u_k (by decide)])
                        have tk := k_1076.2 (by omega)
                        have k_1078 : EX 0 0 1 f0 1 I_1059 o := by exact EX.put47 k_1056 e_1060 (by omega)
                        refine y_Model_next hok hw ra hz16 hz17 hz18 hz19 (by first | omega | (intro h; omega) | exact Or.inl rfl | exact Or.inr rfl) hR_1061 (fun I_1088 L_1089 hR_1090 fr_1091 kp_1092 u_1080 u_1081 u_1082 u_1083 u_1084 u_1085 u_1086 u_1087 => ⟨I_1088, L_1089, rfl, rfl, ?_⟩)
                        have hf_1093 : Fm (fun c => c = o ∨ (o + 30 ≤ c ∧ c < o + 34)) I0 I_1088 := hf_1062.call fr_1091 (fun c hc => by first | exact hc | (dsimp only at hc ⊢; omega) | omega)
                        have t_1094 : (I_1088 o 3).toInt = (I_1059 o 3).toInt := by rw [kp_1092 3 rfl]
                        have t_1095 : (I_1088 o 4).toInt = (I_1059 o 4).toInt := by rw [kp_1092 4 rfl]
                        have g_1096 : (0 : Int) ≤ (I_1088 o 6).toInt ∧ (I_1088 o 6).toInt ≤ 1600 := hR_1090.at0 ra 6 (by decide)
                        have g_1097 : (0 : Int) ≤ (I_1088 o 7).toInt ∧ (I_1088 o 7).toInt ≤ 1601 := hR_1090.at0 ra 7 (by decide)
                        have g_1098 : (0 : Int) ≤ (I_1088 o 8).toInt ∧ (I_1088 o 8).toInt ≤ 6 := hR_1090.at0 ra 8 (by decide)
                        have t_1099 : (I_1088 o 44).toInt = (I_1059 o 44).toInt := by rw [kp_1092 44 rfl]
                        have t_1100 : (I_1088 o 45).toInt = (I_1059 o 45).toInt := by rw [kp_1092 45 rfl]
                        have t_1101 : (I_1088 o 47).toInt = (I_1059 o 47).toInt := by rw [kp_1092 47 rfl]
                        have t_1102 : (I_1088 o 48).toInt = (I_1059 o 48).toInt := by rw [kp_1092 48 rfl]
                        have t_1103 : (I_1088 o 46).toInt = (I_1059 o 46).toInt := by rw [kp_1092 46 rfl]
                        have k_1104 : MTd I_1088 o := k_1074.fr (fr_1091 _ (by first | omega | (dsimp only; omega))) (fr_1091 _ (by first | omega | (dsimp only; omega))) (fr_1091 _ (by first | omega | (dsimp only; omega)))
                        have ms := u_1083 (by omega)
                        have k_1105 : EX 0 0 0 f0 1 I_1088 o := by exact EX.nx k_1078 (fr_1091 _ (by first | omega | (dsimp only; omega))) (fr_1091 _ (by first | omega | (dsimp only; omega))) (fr_1091 _ (by first | omega | (dsimp only; omega))) (fr_1091 _ (by first | omega | (dsimp only; omega))) (fr_1091 _ (by first | omega | (dsimp only; omega))) (kp_1092 3 rfl) (kp_1092 44 rfl) (kp_1092 45 rfl) (kp_1092 47 rfl) (kp_1092 48 rfl) (by omega) (by omega)
                        exact (hp _ _ _ hR_1090 hf_1093 (Or.inr rfl) (by first | omega | (intro h; omega) | exact Or.inl rfl | exact Or.inr rfl) (by first | omega | (intro h; omega) | exact Or.inl rfl | exact Or.inr rfl) (by first | omega | (intro h; omega) | exact Or.inl rfl | exact Or.inr rfl) (by first | omega | (intro h; omega) | exact Or.inl rfl | exact Or.inr rfl) (by first | omega | (intro h; omega) | exact Or.inl rfl | exact Or.inr rfl) (by first | (intro h; exfalso; omega) | exact fun _ => k_1105 | exact fun _ => (False.elim (by omega))) k_1104 u_1086 u_1087)
                      · have d_1106 := iEq c_1029
                        have i_1107 := u_1027 (by omega)
                        exact (hp _ _ _ hR_930 hf_931 (Or.inr rfl) (by first | omega | (intro h; omega) | exact Or.inl rfl | exact Or.inr rfl) (by first | omega | (intro h; omega) | exact Or.inl rfl | exact Or.inr rfl) (by first | omega | (intro h; omega) | exact Or.inl rfl | exact Or.inr rfl) (by first | omega | (intro h; omega) | exact Or.inl rfl | exact Or.inr rfl) (by first | omega | (intro h; omega) | exact Or.inl rfl | exact Or.inr rfl) (by first | (intro h; exfalso; omega) | exact fun _ => k_943 | exact fun _ => (False.elim (by omega))) k_944 k_945 k_946)
                    · have d_1108 := iEq c_1022
                      refine y_Model_wrong hok hw ra hz14 hz15 hR_930 (fun I_1112 L_1113 hR_1114 fr_1115 kp_1116 u_1110 u_1111 => ⟨I_1112, L_1113, rfl, rfl, ?_⟩)
                      have hf_1117 : Fm (fun c => c = o ∨ (o + 30 ≤ c ∧ c < o + 34)) I0 I_1112 := hf_931.call fr_1115 (fun c hc => by first | exact hc | (dsimp only at hc ⊢; omega) | omega)
                      have t_1118 : (I_1112 o 3).toInt = (I_928 o 3).toInt := by rw [kp_1116 3 rfl]
                      have g_1119 : (0 : Int) ≤ (I_1112 o 4).toInt ∧ (I_1112 o 4).toInt ≤ 5 := hR_1114.at0 ra 4 (by decide)
                      have t_1120 : (I_1112 o 6).toInt = (I_928 o 6).toInt := by rw [kp_1116 6 rfl]
                      have t_1121 : (I_1112 o 7).toInt = (I_928 o 7).toInt := by rw [kp_1116 7 rfl]
                      have t_1122 : (I_1112 o 8).toInt = (I_928 o 8).toInt := by rw [kp_1116 8 rfl]
                      have t_1123 : (I_1112 o 9).toInt = (I_928 o 9).toInt := by rw [kp_1116 9 rfl]
                      have t_1124 : (I_1112 o 44).toInt = (I_928 o 44).toInt := by rw [kp_1116 44 rfl]
                      have t_1125 : (I_1112 o 45).toInt = (I_928 o 45).toInt := by rw [kp_1116 45 rfl]
                      have t_1126 : (I_1112 o 47).toInt = (I_928 o 47).toInt := by rw [kp_1116 47 rfl]
                      have t_1127 : (I_1112 o 48).toInt = (I_928 o 48).toInt := by rw [kp_1116 48 rfl]
                      have t_1128 : (I_1112 o 46).toInt = (I_928 o 46).toInt := by rw [kp_1116 46 rfl]
                      have k_1129 : EX 0 0 0 f0 1 I_1112 o := k_943.fr (fr_1115 _ (by first | omega | (dsimp only; omega))) (fr_1115 _ (by first | omega | (dsimp only; omega))) (fr_1115 _ (by first | omega | (dsimp only; omega))) (fr_1115 _ (by first | omega | (dsimp only; omega))) (fr_1115 _ (by first | omega | (dsimp only; omega))) (kp_1116 3 rfl) (kp_1116 6 rfl) (kp_1116 44 rfl) (kp_1116 45 rfl) (kp_1116 47 rfl) (kp_1116 48 rfl)
                      have k_1130 : MTd I_1112 o := k_944.fr (fr_1115 _ (by first | omega | (dsimp only; omega))) (fr_1115 _ (by first | omega | (dsimp only; omega))) (fr_1115 _ (by first | omega | (dsimp only; omega)))
                      have k_1131 : MPo I_1112 o := k_945.fr (kp_1116 8 rfl) (kp_1116 9 rfl)
                      have k_1132 : MTk I_1112 o := k_946.fr (kp_1116 6 rfl) (kp_1116 7 rfl) (kp_1116 8 rfl)
                      refine y_Model_isGood hok hw ra hR_1114 (fun r_1133 u_1134 u_1135 u_1136 => ⟨r_1133, I_1112, L_1113, rfl, rfl, ?_⟩)
                      have b_1137 : 0 ≤ r_1133.toInt ∧ r_1133.toInt ≤ 1 := u_1134.rg
                      refine ⟨fun c_1138 => ?_, fun c_1138 => ?_⟩
                      · have d_1139 := iNe c_1138
                        have i_1140 := u_1135 (by omega)
                        refine y_Model_pile hok hw ra hz58 (by first | omega | (intro h; omega) | exact Or.inl rfl | exact Or.inr rfl) (by first | omega | (intro h; omega) | exact Or.inl rfl | exact Or.inr rfl) hR_1114 (fun I_1145 L_1146 hR_1147 fr_1148 kp_1149 u_1142 u_1143 u_1144 => ⟨I_1145, L_1146, rfl, rfl, ?_⟩)
                        have hf_1150 : Fm (fun c => c = o ∨ (o + 30 ≤ c ∧ c < o + 34)) I0 I_1145 := hf_1117.call fr_1148 (fun c hc => by first | exact hc | (dsimp only at hc ⊢; omega) | omega)
                        have t_1151 : (I_1145 o 3).toInt = (I_1112 o 3).toInt := by rw [kp_1149 3 rfl]
                        have t_1152 : (I_1145 o 4).toInt = (I_1112 o 4).toInt := by rw [kp_1149 4 rfl]
                        have t_1153 : (I_1145 o 6).toInt = (I_1112 o 6).toInt := by rw [kp_1149 6 rfl]
                        have t_1154 : (I_1145 o 7).toInt = (I_1112 o 7).toInt := by rw [kp_1149 7 rfl]
                        have t_1155 : (I_1145 o 8).toInt = (I_1112 o 8).toInt := by rw [kp_1149 8 rfl]
                        have t_1156 : (I_1145 o 9).toInt = (I_1112 o 9).toInt := by rw [kp_1149 9 rfl]
                        have t_1157 : (I_1145 o 44).toInt = (I_1112 o 44).toInt := by rw [kp_1149 44 rfl]
                        have t_1158 : (I_1145 o 45).toInt = (I_1112 o 45).toInt := by rw [kp_1149 45 rfl]
                        have t_1159 : (I_1145 o 47).toInt = (I_1112 o 47).toInt := by rw [kp_1149 47 rfl]
                        have g_1160 : (0 : Int) ≤ (I_1145 o 48).toInt ∧ (I_1145 o 48).toInt ≤ 80 := hR_1147.at0 ra 48 (by decide)
                        have t_1161 : (I_1145 o 46).toInt = (I_1112 o 46).toInt := by rw [kp_1149 46 rfl]
                        have k_1162 : MTd I_1145 o := k_1130.fr (fr_1148 _ (by first | omega | (dsimp only; omega))) (fr_1148 _ (by first | omega | (dsimp only; omega))) (fr_1148 _ (by first | omega | (dsimp only; omega)))
                        have k_1163 : MPo I_1145 o := k_1131.fr (kp_1149 8 rfl) (kp_1149 9 rfl)
                        have k_1164 : MTk I_1145 o := k_1132.fr (kp_1149 6 rfl) (kp_1149 7 rfl) (kp_1149 8 rfl)
                        have k_1165 : EX 0 1 1 f0 1 I_1145 o := by have z := EX.push k_1129 (v := 7) (s := 0) (dB := 1) (dO := 0) (wt' := 1) (by decide) (by decide) (by decide) (by omega) ⟨by decide, by decide⟩ ⟨fun h => absurd h (by decide), fun h => absurd h (by decide)⟩ (Or.inl rfl) (fr_1148 _ (by first | omega | (dsimp only; omega))) (fr_1148 _ (by first | omega | (dsimp only; omega))) (fr_1148 _ (by first | omega | (dsimp only; omega))) u_1142 u_1143 (kp_1149 3 rfl) (kp_1149 6 rfl) (kp_1149 44 rfl) (kp_1149 45 rfl) (kp_1149 47 rfl) u_1144; exact EX.chg (b' := 1) z rfl rfl rfl rfl rfl rfl rfl rfl rfl rfl (by omega) z.pl
                        have g_1166 : (0 : Int) ≤ (I_1145 o 47).toInt ∧ (I_1145 o 47).toInt ≤ 7 := hR_1147.at0 ra 47 (by decide)
                        have a_1167 : ((I_1145 o 47) + 1).toInt = (I_1145 o 47).toInt + (1 : Int32).toInt := tAdd (by omega) (by omega)
                        refine fun I_1168 e_1169 => ?_
                        have hR_1170 : RI R I_1168 := hR_1147.up0 (k := 47) ra (by decide) (Or.inr hz57) e_1169 (show (0 : Int) ≤ ((I_1145 o 47) + 1).toInt by omega) (show ((I_1145 o 47) + 1).toInt ≤ (7 : Int) by omega)
                        have hf_1171 : Fm (fun c => c = o ∨ (o + 30 ≤ c ∧ c < o + 34)) I0 I_1168 := hf_1150.set (by first | rfl | omega | (dsimp only; omega)) e_1169
                        have t_1172 : (I_1168 o 3).toInt = (I_1145 o 3).toInt := by rw [← e_1169, q_u_k (by decide)]
                        have t_1173 : (I_1168 o 4).toInt = (I_1145 o 4).toInt := by rw [← e_1169, q_u_k (by decide)]
                        have t_1174 : (I_1168 o 6).toInt = (I_1145 o 6).toInt := by rw [← e_1169, q_u_k (by decide)]
                        have t_1175 : (I_1168 o 7).toInt = (I_1145 o 7).toInt := by rw [← e_1169, q_u_k (by decide)]
                        have t_1176 : (I_1168 o 8).toInt = (I_1145 o 8).toInt := by rw [← e_1169, q_u_k (by decide)]
                        have t_1177 : (I_1168 o 9).toInt = (I_1145 o 9).toInt := by rw [← e_1169, q_u_k (by decide)]
                        have t_1178 : (I_1168 o 44).toInt = (I_1145 o 44).toInt := by rw [← e_1169, q_u_k (by decide)]
                        have t_1179 : (I_1168 o 45).toInt = (I_1145 o 45).toInt := by rw [← e_1169, q_u_k (by decide)]
                        have t_1180 : (I_1168 o 47).toInt = ((I_1145 o 47) + 1).toInt := by rw [← e_1169, q_u_at]
                        have t_1181 : (I_1168 o 48).toInt = (I_1145 o 48).toInt := by rw [← e_1169, q_u_k (by decide)]
                        have t_1182 : (I_1168 o 46).toInt = (I_1145 o 46).toInt := by rw [← e_1169, q_u_k (by decide)]
                        have k_1183 : MTd I_1168 o := k_1162.fr (by rw [← e_1169]; exact q_u_ne (by omega)) (by rw [← e_1169]; exact q_u_ne (by omega)) (by rw [← e_1169]; exact q_u_ne (by omega))
                        have k_1184 : MPo I_1168 o := k_1163.fr (by rw [← e_1169, q_u_k (by decide)]) (by rw [← e_1169, q_u_k (by decide)])
                        have k_1185 : MTk I_1168 o := k_1164.fr (by rw [← e_1169, q_u_k (by decide)]) (by rw [← e_1169, q_u_k (by decide)]) (by rw [← e_1169, q_u_k (by decide)])
                        have tk := k_1185.2 (by omega)
                        have k_1187 : EX 0 0 1 f0 1 I_1168 o := by exact EX.put47 k_1165 e_1169 (by omega)
                        refine y_Model_next hok hw ra hz16 hz17 hz18 hz19 (by first | omega | (intro h; omega) | exact Or.inl rfl | exact Or.inr rfl) hR_1170 (fun I_1197 L_1198 hR_1199 fr_1200 kp_1201 u_1189 u_1190 u_1191 u_1192 u_1193 u_1194 u_1195 u_1196 => ⟨I_1197, L_1198, rfl, rfl, ?_⟩)
                        have hf_1202 : Fm (fun c => c = o ∨ (o + 30 ≤ c ∧ c < o + 34)) I0 I_1197 := hf_1171.call fr_1200 (fun c hc => by first | exact hc | (dsimp only at hc ⊢; omega) | omega)
                        have t_1203 : (I_1197 o 3).toInt = (I_1168 o 3).toInt := by rw [kp_1201 3 rfl]
                        have t_1204 : (I_1197 o 4).toInt = (I_1168 o 4).toInt := by rw [kp_1201 4 rfl]
                        have g_1205 : (0 : Int) ≤ (I_1197 o 6).toInt ∧ (I_1197 o 6).toInt ≤ 1600 := hR_1199.at0 ra 6 (by decide)
                        have g_1206 : (0 : Int) ≤ (I_1197 o 7).toInt ∧ (I_1197 o 7).toInt ≤ 1601 := hR_1199.at0 ra 7 (by decide)
                        have g_1207 : (0 : Int) ≤ (I_1197 o 8).toInt ∧ (I_1197 o 8).toInt ≤ 6 := hR_1199.at0 ra 8 (by decide)
                        have t_1208 : (I_1197 o 44).toInt = (I_1168 o 44).toInt := by rw [kp_1201 44 rfl]
                        have t_1209 : (I_1197 o 45).toInt = (I_1168 o 45).toInt := by rw [kp_1201 45 rfl]
                        have t_1210 : (I_1197 o 47).toInt = (I_1168 o 47).toInt := by rw [kp_1201 47 rfl]
                        have t_1211 : (I_1197 o 48).toInt = (I_1168 o 48).toInt := by rw [kp_1201 48 rfl]
                        have t_1212 : (I_1197 o 46).toInt = (I_1168 o 46).toInt := by rw [kp_1201 46 rfl]
                        have k_1213 : MTd I_1197 o := k_1183.fr (fr_1200 _ (by first | omega | (dsimp only; omega))) (fr_1200 _ (by first | omega | (dsimp only; omega))) (fr_1200 _ (by first | omega | (dsimp only; omega)))
                        have ms := u_1192 (by omega)
                        have k_1214 : EX 0 0 0 f0 1 I_1197 o := by exact EX.nx k_1187 (fr_1200 _ (by first | omega | (dsimp only; omega))) (fr_1200 _ (by first | omega | (dsimp only; omega))) (fr_1200 _ (by first | omega | (dsimp only; omega))) (fr_1200 _ (by first | omega | (dsimp only; omega))) (fr_1200 _ (by first | omega | (dsimp only; omega))) (kp_1201 3 rfl) (kp_1201 44 rfl) (kp_1201 45 rfl) (kp_1201 47 rfl) (kp_1201 48 rfl) (by omega) (by omega)
                        exact (hp _ _ _ hR_1199 hf_1202 (Or.inr rfl) (by first | omega | (intro h; omega) | exact Or.inl rfl | exact Or.inr rfl) (by first | omega | (intro h; omega) | exact Or.inl rfl | exact Or.inr rfl) (by first | omega | (intro h; omega) | exact Or.inl rfl | exact Or.inr rfl) (by first | omega | (intro h; omega) | exact Or.inl rfl | exact Or.inr rfl) (by first | omega | (intro h; omega) | exact Or.inl rfl | exact Or.inr rfl) (by first | (intro h; exfalso; omega) | exact fun _ => k_1214 | exact fun _ => (False.elim (by omega))) k_1213 u_1195 u_1196)
                      · have d_1215 := iEq c_1138
                        have i_1216 := u_1136 (by omega)
                        exact (hp _ _ _ hR_1114 hf_1117 (Or.inr rfl) (by first | omega | (intro h; omega) | exact Or.inl rfl | exact Or.inr rfl) (by first | omega | (intro h; omega) | exact Or.inl rfl | exact Or.inr rfl) (by first | omega | (intro h; omega) | exact Or.inl rfl | exact Or.inr rfl) (by first | omega | (intro h; omega) | exact Or.inl rfl | exact Or.inr rfl) (by first | omega | (intro h; omega) | exact Or.inl rfl | exact Or.inr rfl) (by first | (intro h; exfalso; omega) | exact fun _ => k_1129 | exact fun _ => (False.elim (by omega))) k_1130 k_1131 k_1132)
                · have d_1217 := iEq c_923
                  have i_1218 := u_921 (by omega)
                  exact (hp _ _ _ hR_34 hf_37 (Or.inr rfl) (by first | omega | (intro h; omega) | exact Or.inl rfl | exact Or.inr rfl) (by first | omega | (intro h; omega) | exact Or.inl rfl | exact Or.inr rfl) (by first | omega | (intro h; omega) | exact Or.inl rfl | exact Or.inr rfl) (by first | omega | (intro h; omega) | exact Or.inl rfl | exact Or.inr rfl) (by first | omega | (intro h; omega) | exact Or.inl rfl | exact Or.inr rfl) (by first | (intro h; exfalso; omega) | exact fun _ => k_48 | exact fun _ => (False.elim (by omega))) k_49 k_50 k_51)
              · have d_1219 := iEq c_916
                unfold fModel_unit_140
                refine y_Model_wrong hok hw ra hz14 hz15 hR_34 (fun I_1223 L_1224 hR_1225 fr_1226 kp_1227 u_1221 u_1222 => ⟨I_1223, L_1224, rfl, rfl, ?_⟩)
                have hf_1228 : Fm (fun c => c = o ∨ (o + 30 ≤ c ∧ c < o + 34)) I0 I_1223 := hf_37.call fr_1226 (fun c hc => by first | exact hc | (dsimp only at hc ⊢; omega) | omega)
                have t_1229 : (I_1223 o 3).toInt = (I_32 o 3).toInt := by rw [kp_1227 3 rfl]
                have g_1230 : (0 : Int) ≤ (I_1223 o 4).toInt ∧ (I_1223 o 4).toInt ≤ 5 := hR_1225.at0 ra 4 (by decide)
                have t_1231 : (I_1223 o 6).toInt = (I_32 o 6).toInt := by rw [kp_1227 6 rfl]
                have t_1232 : (I_1223 o 7).toInt = (I_32 o 7).toInt := by rw [kp_1227 7 rfl]
                have t_1233 : (I_1223 o 8).toInt = (I_32 o 8).toInt := by rw [kp_1227 8 rfl]
                have t_1234 : (I_1223 o 9).toInt = (I_32 o 9).toInt := by rw [kp_1227 9 rfl]
                have t_1235 : (I_1223 o 44).toInt = (I_32 o 44).toInt := by rw [kp_1227 44 rfl]
                have t_1236 : (I_1223 o 45).toInt = (I_32 o 45).toInt := by rw [kp_1227 45 rfl]
                have t_1237 : (I_1223 o 47).toInt = (I_32 o 47).toInt := by rw [kp_1227 47 rfl]
                have t_1238 : (I_1223 o 48).toInt = (I_32 o 48).toInt := by rw [kp_1227 48 rfl]
                have t_1239 : (I_1223 o 46).toInt = (I_32 o 46).toInt := by rw [kp_1227 46 rfl]
                have k_1240 : EX 0 0 0 f0 1 I_1223 o := k_48.fr (fr_1226 _ (by first | omega | (dsimp only; omega))) (fr_1226 _ (by first | omega | (dsimp only; omega))) (fr_1226 _ (by first | omega | (dsimp only; omega))) (fr_1226 _ (by first | omega | (dsimp only; omega))) (fr_1226 _ (by first | omega | (dsimp only; omega))) (kp_1227 3 rfl) (kp_1227 6 rfl) (kp_1227 44 rfl) (kp_1227 45 rfl) (kp_1227 47 rfl) (kp_1227 48 rfl)
                have k_1241 : MTd I_1223 o := k_49.fr (fr_1226 _ (by first | omega | (dsimp only; omega))) (fr_1226 _ (by first | omega | (dsimp only; omega))) (fr_1226 _ (by first | omega | (dsimp only; omega)))
                have k_1242 : MPo I_1223 o := k_50.fr (kp_1227 8 rfl) (kp_1227 9 rfl)
                have k_1243 : MTk I_1223 o := k_51.fr (kp_1227 6 rfl) (kp_1227 7 rfl) (kp_1227 8 rfl)
                refine y_Model_isGood hok hw ra hR_1225 (fun r_1244 u_1245 u_1246 u_1247 => ⟨r_1244, I_1223, L_1224, rfl, rfl, ?_⟩)
                have b_1248 : 0 ≤ r_1244.toInt ∧ r_1244.toInt ≤ 1 := u_1245.rg
                refine ⟨fun c_1249 => ?_, fun c_1249 => ?_⟩
                · have d_1250 := iNe c_1249
                  have i_1251 := u_1246 (by omega)
                  have g_1252 : (0 : Int) ≤ (I_1223 o 46).toInt ∧ (I_1223 o 46).toInt ≤ 100 := hR_1225.at0 ra 46 (by decide)
                  have a_1253 : ((I_1223 o 46) + 1).toInt = (I_1223 o 46).toInt + (1 : Int32).toInt := tAdd (by omega) (by omega)
                  refine fun I_1254 e_1255 => ?_
                  have hR_1256 : RI R I_1254 := hR_1225.up0 (k := 46) ra (by decide) (Or.inr hz56) e_1255 (show (0 : Int) ≤ ((I_1223 o 46) + 1).toInt by omega) (show ((I_1223 o 46) + 1).toInt ≤ (100 : Int) by omega)
                  have hf_1257 : Fm (fun c => c = o ∨ (o + 30 ≤ c ∧ c < o + 34)) I0 I_1254 := hf_1228.set (by first | rfl | omega | (dsimp only; omega)) e_1255
                  have t_1258 : (I_1254 o 3).toInt = (I_1223 o 3).toInt := by rw [← e_1255, q_u_k (by decide)]
                  have t_1259 : (I_1254 o 4).toInt = (I_1223 o 4).toInt := by rw [← e_1255, q_u_k (by decide)]
                  have t_1260 : (I_1254 o 6).toInt = (I_1223 o 6).toInt := by rw [← e_1255, q_u_k (by decide)]
                  have t_1261 : (I_1254 o 7).toInt = (I_1223 o 7).toInt := by rw [← e_1255, q_u_k (by decide)]
                  have t_1262 : (I_1254 o 8).toInt = (I_1223 o 8).toInt := by rw [← e_1255, q_u_k (by decide)]
                  have t_1263 : (I_1254 o 9).toInt = (I_1223 o 9).toInt := by rw [← e_1255, q_u_k (by decide)]
                  have t_1264 : (I_1254 o 44).toInt = (I_1223 o 44).toInt := by rw [← e_1255, q_u_k (by decide)]
                  have t_1265 : (I_1254 o 45).toInt = (I_1223 o 45).toInt := by rw [← e_1255, q_u_k (by decide)]
                  have t_1266 : (I_1254 o 47).toInt = (I_1223 o 47).toInt := by rw [← e_1255, q_u_k (by decide)]
                  have t_1267 : (I_1254 o 48).toInt = (I_1223 o 48).toInt := by rw [← e_1255, q_u_k (by decide)]
                  have t_1268 : (I_1254 o 46).toInt = ((I_1223 o 46) + 1).toInt := by rw [← e_1255, q_u_at]
                  have k_1269 : EX 0 0 0 f0 1 I_1254 o := k_1240.fr (by rw [← e_1255]; exact q_u_ne (by omega)) (by rw [← e_1255]; exact q_u_ne (by omega)) (by rw [← e_1255]; exact q_u_ne (by omega)) (by rw [← e_1255]; exact q_u_ne (by omega)) (by rw [← e_1255]; exact q_u_ne (by omega)) (by rw [← e_1255, q_u_k (by decide)]) (by rw [← e_1255, q_u_k (by decide)]) (by rw [← e_1255, q_u_k (by decide)]) (by rw [← e_1255, q_u_k (by decide)]) (by rw [← e_1255, q_u_k (by decide)]) (by rw [← e_1255, q_u_k (by decide)])
                  have k_1270 : MTd I_1254 o := k_1241.fr (by rw [← e_1255]; exact q_u_ne (by omega)) (by rw [← e_1255]; exact q_u_ne (by omega)) (by rw [← e_1255]; exact q_u_ne (by omega))
                  have k_1271 : MPo I_1254 o := k_1242.fr (by rw [← e_1255, q_u_k (by decide)]) (by rw [← e_1255, q_u_k (by decide)])
                  have k_1272 : MTk I_1254 o := k_1243.fr (by rw [← e_1255, q_u_k (by decide)]) (by rw [← e_1255, q_u_k (by decide)]) (by rw [← e_1255, q_u_k (by decide)])
                  have l_1273 : (40 : Int32).toInt = 40 := rfl
                  refine y_Model_is hok hw ra hR_1256 (fun r_1274 u_1275 u_1276 u_1277 => ⟨r_1274, I_1254, L_1224, rfl, rfl, ?_⟩)
                  have b_1278 : 0 ≤ r_1274.toInt ∧ r_1274.toInt ≤ 1 := u_1275.rg
                  refine ⟨fun c_1279 => ?_, fun c_1279 => ?_⟩
                  · have d_1280 := iEq c_1279
                    have cd := k_1269.cod
                    have tk := k_1272.2 (by omega)
                    refine ⟨fun c_1281 => ?_, fun c_1281 => ?_⟩
                    · have d_1282 := iNe c_1281
                      have i_1283 := u_29 (by omega)
                      have i_1284 := u_30 (by omega)
                      exfalso; omega
                    · have d_1285 := iEq c_1281
                      unfold fModel_unit_228
                      have l_1286 : (78 : Int32).toInt = 78 := rfl
                      refine ⟨fun c_1287 => ?_, fun c_1287 => ?_⟩
                      · have d_1288 := iNe c_1287
                        have i_1289 := u_29 (by omega)
                        have i_1290 := u_30 (by omega)
                        exfalso; omega
                      · have d_1291 := iEq c_1287
                        refine y_Model_step hok hw ra hz55 (by first | omega | (intro h; omega) | exact Or.inl rfl | exact Or.inr rfl) (by first | omega | (intro h; omega) | exact Or.inl rfl | exact Or.inr rfl) hR_1256 (fun I_1295 L_1296 hR_1297 fr_1298 kp_1299 u_1293 u_1294 => ⟨I_1295, L_1296, rfl, rfl, ?_⟩)
                        have hf_1300 : Fm (fun c => c = o ∨ (o + 30 ≤ c ∧ c < o + 34)) I0 I_1295 := hf_1257.call fr_1298 (fun c hc => by first | exact hc | (dsimp only at hc ⊢; omega) | omega)
                        have t_1301 : (I_1295 o 3).toInt = (I_1254 o 3).toInt := by rw [kp_1299 3 rfl]
                        have t_1302 : (I_1295 o 4).toInt = (I_1254 o 4).toInt := by rw [kp_1299 4 rfl]
                        have t_1303 : (I_1295 o 6).toInt = (I_1254 o 6).toInt := by rw [kp_1299 6 rfl]
                        have t_1304 : (I_1295 o 7).toInt = (I_1254 o 7).toInt := by rw [kp_1299 7 rfl]
                        have t_1305 : (I_1295 o 8).toInt = (I_1254 o 8).toInt := by rw [kp_1299 8 rfl]
                        have t_1306 : (I_1295 o 9).toInt = (I_1254 o 9).toInt := by rw [kp_1299 9 rfl]
                        have t_1307 : (I_1295 o 44).toInt = (I_1254 o 44).toInt := by rw [kp_1299 44 rfl]
                        have g_1308 : (0 : Int) ≤ (I_1295 o 45).toInt ∧ (I_1295 o 45).toInt ≤ 700 := hR_1297.at0 ra 45 (by decide)
                        have t_1309 : (I_1295 o 47).toInt = (I_1254 o 47).toInt := by rw [kp_1299 47 rfl]
                        have t_1310 : (I_1295 o 48).toInt = (I_1254 o 48).toInt := by rw [kp_1299 48 rfl]
                        have t_1311 : (I_1295 o 46).toInt = (I_1254 o 46).toInt := by rw [kp_1299 46 rfl]
                        have k_1312 : MPo I_1295 o := k_1271.fr (kp_1299 8 rfl) (kp_1299 9 rfl)
                        have k_1313 : MTk I_1295 o := k_1272.fr (kp_1299 6 rfl) (kp_1299 7 rfl) (kp_1299 8 rfl)
                        have tk := k_1313.2 (by omega)
                        have k_1314 : EX 0 0 1 f0 0 I_1295 o := by exact EX.step1 k_1269 (by first | exact u_29 (by omega) | (unfold isT; decide)) (by omega) (fr_1298 _ (by first | omega | (dsimp only; omega))) (fr_1298 _ (by first | omega | (dsimp only; omega))) u_1293 (fr_1298 _ (by first | omega | (dsimp only; omega))) (fr_1298 _ (by first | omega | (dsimp only; omega))) (kp_1299 3 rfl) (kp_1299 6 rfl) (kp_1299 44 rfl) u_1294 (kp_1299 47 rfl) (kp_1299 48 rfl)
                        have k_1315 : MTd I_1295 o := by exact MTd.step k_1270 (fr_1298 _ (by first | omega | (dsimp only; omega))) (fr_1298 _ (by first | omega | (dsimp only; omega))) u_1293 (by omega)
                        refine y_Model_next hok hw ra hz16 hz17 hz18 hz19 (by first | omega | (intro h; omega) | exact Or.inl rfl | exact Or.inr rfl) hR_1297 (fun I_1325 L_1326 hR_1327 fr_1328 kp_1329 u_1317 u_1318 u_1319 u_1320 u_1321 u_1322 u_1323 u_1324 => ⟨I_1325, L_1326, rfl, rfl, ?_⟩)
                        have hf_1330 : Fm (fun c => c = o ∨ (o + 30 ≤ c ∧ c < o + 34)) I0 I_1325 := hf_1300.call fr_1328 (fun c hc => by first | exact hc | (dsimp only at hc ⊢; omega) | omega)
                        have t_1331 : (I_1325 o 3).toInt = (I_1295 o 3).toInt := by rw [kp_1329 3 rfl]
                        have t_1332 : (I_1325 o 4).toInt = (I_1295 o 4).toInt := by rw [kp_1329 4 rfl]
                        have g_1333 : (0 : Int) ≤ (I_1325 o 6).toInt ∧ (I_1325 o 6).toInt ≤ 1600 := hR_1327.at0 ra 6 (by decide)
                        have g_1334 : (0 : Int) ≤ (I_1325 o 7).toInt ∧ (I_1325 o 7).toInt ≤ 1601 := hR_1327.at0 ra 7 (by decide)
                        have g_1335 : (0 : Int) ≤ (I_1325 o 8).toInt ∧ (I_1325 o 8).toInt ≤ 6 := hR_1327.at0 ra 8 (by decide)
                        have t_1336 : (I_1325 o 44).toInt = (I_1295 o 44).toInt := by rw [kp_1329 44 rfl]
                        have t_1337 : (I_1325 o 45).toInt = (I_1295 o 45).toInt := by rw [kp_1329 45 rfl]
                        have t_1338 : (I_1325 o 47).toInt = (I_1295 o 47).toInt := by rw [kp_1329 47 rfl]
                        have t_1339 : (I_1325 o 48).toInt = (I_1295 o 48).toInt := by rw [kp_1329 48 rfl]
                        have t_1340 : (I_1325 o 46).toInt = (I_1295 o 46).toInt := by rw [kp_1329 46 rfl]
                        have k_1341 : MTd I_1325 o := k_1315.fr (fr_1328 _ (by first | omega | (dsimp only; omega))) (fr_1328 _ (by first | omega | (dsimp only; omega))) (fr_1328 _ (by first | omega | (dsimp only; omega)))
                        have ms := u_1320 (by omega)
                        have k_1342 : EX 0 0 0 f0 0 I_1325 o := by exact EX.nx k_1314 (fr_1328 _ (by first | omega | (dsimp only; omega))) (fr_1328 _ (by first | omega | (dsimp only; omega))) (fr_1328 _ (by first | omega | (dsimp only; omega))) (fr_1328 _ (by first | omega | (dsimp only; omega))) (fr_1328 _ (by first | omega | (dsimp only; omega))) (kp_1329 3 rfl) (kp_1329 44 rfl) (kp_1329 45 rfl) (kp_1329 47 rfl) (kp_1329 48 rfl) (by omega) (by omega)
                        exact (hp _ _ _ hR_1327 hf_1330 (Or.inl rfl) (by first | omega | (intro h; omega) | exact Or.inl rfl | exact Or.inr rfl) (by first | omega | (intro h; omega) | exact Or.inl rfl | exact Or.inr rfl) (by first | omega | (intro h; omega) | exact Or.inl rfl | exact Or.inr rfl) (by first | omega | (intro h; omega) | exact Or.inl rfl | exact Or.inr rfl) (by first | omega | (intro h; omega) | exact Or.inl rfl | exact Or.inr rfl) (by first | (intro h; exfalso; omega) | exact fun _ => (False.elim (by omega)) | exact fun _ => k_1342) k_1341 u_1323 u_1324)
                  · have d_1343 := iNe c_1279
                    have i_1344 := u_1276 (by omega)
                    have i_1345 := u_1277 (by omega)
                    have g_1346 : (0 : Int) ≤ (I_1254 o 47).toInt ∧ (I_1254 o 47).toInt ≤ 7 := hR_1256.at0 ra 47 (by decide)
                    have l_1347 : (7 : Int32).toInt = 7 := rfl
                    refine ⟨fun c_1348 => ?_, fun c_1348 => ?_⟩
                    · have d_1349 := iNe c_1348
                      refine y_Model_isGood hok hw ra hR_1256 (fun r_1350 u_1351 u_1352 u_1353 => ⟨r_1350, I_1254, L_1224, rfl, rfl, ?_⟩)
                      have b_1354 : 0 ≤ r_1350.toInt ∧ r_1350.toInt ≤ 1 := u_1351.rg
                      refine ⟨fun c_1355 => ?_, fun c_1355 => ?_⟩
                      · have d_1356 := iNe c_1355
                        have i_1357 := u_1352 (by omega)
                        refine y_Model_pile hok hw ra hz58 (by first | omega | (intro h; omega) | exact Or.inl rfl | exact Or.inr rfl) (by first | omega | (intro h; omega) | exact Or.inl rfl | exact Or.inr rfl) hR_1256 (fun I_1362 L_1363 hR_1364 fr_1365 kp_1366 u_1359 u_1360 u_1361 => ⟨I_1362, L_1363, rfl, rfl, ?_⟩)
                        have hf_1367 : Fm (fun c => c = o ∨ (o + 30 ≤ c ∧ c < o + 34)) I0 I_1362 := hf_1257.call fr_1365 (fun c hc => by first | exact hc | (dsimp only at hc ⊢; omega) | omega)
                        have t_1368 : (I_1362 o 3).toInt = (I_1254 o 3).toInt := by rw [kp_1366 3 rfl]
                        have t_1369 : (I_1362 o 4).toInt = (I_1254 o 4).toInt := by rw [kp_1366 4 rfl]
                        have t_1370 : (I_1362 o 6).toInt = (I_1254 o 6).toInt := by rw [kp_1366 6 rfl]
                        have t_1371 : (I_1362 o 7).toInt = (I_1254 o 7).toInt := by rw [kp_1366 7 rfl]
                        have t_1372 : (I_1362 o 8).toInt = (I_1254 o 8).toInt := by rw [kp_1366 8 rfl]
                        have t_1373 : (I_1362 o 9).toInt = (I_1254 o 9).toInt := by rw [kp_1366 9 rfl]
                        have t_1374 : (I_1362 o 44).toInt = (I_1254 o 44).toInt := by rw [kp_1366 44 rfl]
                        have t_1375 : (I_1362 o 45).toInt = (I_1254 o 45).toInt := by rw [kp_1366 45 rfl]
                        have t_1376 : (I_1362 o 47).toInt = (I_1254 o 47).toInt := by rw [kp_1366 47 rfl]
                        have g_1377 : (0 : Int) ≤ (I_1362 o 48).toInt ∧ (I_1362 o 48).toInt ≤ 80 := hR_1364.at0 ra 48 (by decide)
                        have t_1378 : (I_1362 o 46).toInt = (I_1254 o 46).toInt := by rw [kp_1366 46 rfl]
                        have k_1379 : MTd I_1362 o := k_1270.fr (fr_1365 _ (by first | omega | (dsimp only; omega))) (fr_1365 _ (by first | omega | (dsimp only; omega))) (fr_1365 _ (by first | omega | (dsimp only; omega)))
                        have k_1380 : MPo I_1362 o := k_1271.fr (kp_1366 8 rfl) (kp_1366 9 rfl)
                        have k_1381 : MTk I_1362 o := k_1272.fr (kp_1366 6 rfl) (kp_1366 7 rfl) (kp_1366 8 rfl)
                        have k_1382 : EX 0 1 1 f0 1 I_1362 o := by have z := EX.push k_1269 (v := 7) (s := 0) (dB := 1) (dO := 0) (wt' := 1) (by decide) (by decide) (by decide) (by omega) ⟨by decide, by decide⟩ ⟨fun h => absurd h (by decide), fun h => absurd h (by decide)⟩ (Or.inl rfl) (fr_1365 _ (by first | omega | (dsimp only; omega))) (fr_1365 _ (by first | omega | (dsimp only; omega))) (fr_1365 _ (by first | omega | (dsimp only; omega))) u_1359 u_1360 (kp_1366 3 rfl) (kp_1366 6 rfl) (kp_1366 44 rfl) (kp_1366 45 rfl) (kp_1366 47 rfl) u_1361; exact EX.chg (b' := 1) z rfl rfl rfl rfl rfl rfl rfl rfl rfl rfl (by omega) z.pl
                        have g_1383 : (0 : Int) ≤ (I_1362 o 47).toInt ∧ (I_1362 o 47).toInt ≤ 7 := hR_1364.at0 ra 47 (by decide)
                        have a_1384 : ((I_1362 o 47) + 1).toInt = (I_1362 o 47).toInt + (1 : Int32).toInt := tAdd (by omega) (by omega)
                        refine fun I_1385 e_1386 => ?_
                        have hR_1387 : RI R I_1385 := hR_1364.up0 (k := 47) ra (by decide) (Or.inr hz57) e_1386 (show (0 : Int) ≤ ((I_1362 o 47) + 1).toInt by omega) (show ((I_1362 o 47) + 1).toInt ≤ (7 : Int) by omega)
                        have hf_1388 : Fm (fun c => c = o ∨ (o + 30 ≤ c ∧ c < o + 34)) I0 I_1385 := hf_1367.set (by first | rfl | omega | (dsimp only; omega)) e_1386
                        have t_1389 : (I_1385 o 3).toInt = (I_1362 o 3).toInt := by rw [← e_1386, q_u_k (by decide)]
                        have t_1390 : (I_1385 o 4).toInt = (I_1362 o 4).toInt := by rw [← e_1386, q_u_k (by decide)]
                        have t_1391 : (I_1385 o 6).toInt = (I_1362 o 6).toInt := by rw [← e_1386, q_u_k (by decide)]
                        have t_1392 : (I_1385 o 7).toInt = (I_1362 o 7).toInt := by rw [← e_1386, q_u_k (by decide)]
                        have t_1393 : (I_1385 o 8).toInt = (I_1362 o 8).toInt := by rw [← e_1386, q_u_k (by decide)]
                        have t_1394 : (I_1385 o 9).toInt = (I_1362 o 9).toInt := by rw [← e_1386, q_u_k (by decide)]
                        have t_1395 : (I_1385 o 44).toInt = (I_1362 o 44).toInt := by rw [← e_1386, q_u_k (by decide)]
                        have t_1396 : (I_1385 o 45).toInt = (I_1362 o 45).toInt := by rw [← e_1386, q_u_k (by decide)]
                        have t_1397 : (I_1385 o 47).toInt = ((I_1362 o 47) + 1).toInt := by rw [← e_1386, q_u_at]
                        have t_1398 : (I_1385 o 48).toInt = (I_1362 o 48).toInt := by rw [← e_1386, q_u_k (by decide)]
                        have t_1399 : (I_1385 o 46).toInt = (I_1362 o 46).toInt := by rw [← e_1386, q_u_k (by decide)]
                        have k_1400 : MTd I_1385 o := k_1379.fr (by rw [← e_1386]; exact q_u_ne (by omega)) (by rw [← e_1386]; exact q_u_ne (by omega)) (by rw [← e_1386]; exact q_u_ne (by omega))
                        have k_1401 : MPo I_1385 o := k_1380.fr (by rw [← e_1386, q_u_k (by decide)]) (by rw [← e_1386, q_u_k (by decide)])
                        have k_1402 : MTk I_1385 o := k_1381.fr (by rw [← e_1386, q_u_k (by decide)]) (by rw [← e_1386, q_u_k (by decide)]) (by rw [← e_1386, q_u_k (by decide)])
                        have tk := k_1402.2 (by omega)
                        have k_1404 : EX 0 0 1 f0 1 I_1385 o := by exact EX.put47 k_1382 e_1386 (by omega)
                        refine y_Model_next hok hw ra hz16 hz17 hz18 hz19 (by first | omega | (intro h; omega) | exact Or.inl rfl | exact Or.inr rfl) hR_1387 (fun I_1414 L_1415 hR_1416 fr_1417 kp_1418 u_1406 u_1407 u_1408 u_1409 u_1410 u_1411 u_1412 u_1413 => ⟨I_1414, L_1415, rfl, rfl, ?_⟩)
                        have hf_1419 : Fm (fun c => c = o ∨ (o + 30 ≤ c ∧ c < o + 34)) I0 I_1414 := hf_1388.call fr_1417 (fun c hc => by first | exact hc | (dsimp only at hc ⊢; omega) | omega)
                        have t_1420 : (I_1414 o 3).toInt = (I_1385 o 3).toInt := by rw [kp_1418 3 rfl]
                        have t_1421 : (I_1414 o 4).toInt = (I_1385 o 4).toInt := by rw [kp_1418 4 rfl]
                        have g_1422 : (0 : Int) ≤ (I_1414 o 6).toInt ∧ (I_1414 o 6).toInt ≤ 1600 := hR_1416.at0 ra 6 (by decide)
                        have g_1423 : (0 : Int) ≤ (I_1414 o 7).toInt ∧ (I_1414 o 7).toInt ≤ 1601 := hR_1416.at0 ra 7 (by decide)
                        have g_1424 : (0 : Int) ≤ (I_1414 o 8).toInt ∧ (I_1414 o 8).toInt ≤ 6 := hR_1416.at0 ra 8 (by decide)
                        have t_1425 : (I_1414 o 44).toInt = (I_1385 o 44).toInt := by rw [kp_1418 44 rfl]
                        have t_1426 : (I_1414 o 45).toInt = (I_1385 o 45).toInt := by rw [kp_1418 45 rfl]
                        have t_1427 : (I_1414 o 47).toInt = (I_1385 o 47).toInt := by rw [kp_1418 47 rfl]
                        have t_1428 : (I_1414 o 48).toInt = (I_1385 o 48).toInt := by rw [kp_1418 48 rfl]
                        have t_1429 : (I_1414 o 46).toInt = (I_1385 o 46).toInt := by rw [kp_1418 46 rfl]
                        have k_1430 : MTd I_1414 o := k_1400.fr (fr_1417 _ (by first | omega | (dsimp only; omega))) (fr_1417 _ (by first | omega | (dsimp only; omega))) (fr_1417 _ (by first | omega | (dsimp only; omega)))
                        have ms := u_1409 (by omega)
                        have k_1431 : EX 0 0 0 f0 1 I_1414 o := by exact EX.nx k_1404 (fr_1417 _ (by first | omega | (dsimp only; omega))) (fr_1417 _ (by first | omega | (dsimp only; omega))) (fr_1417 _ (by first | omega | (dsimp only; omega))) (fr_1417 _ (by first | omega | (dsimp only; omega))) (fr_1417 _ (by first | omega | (dsimp only; omega))) (kp_1418 3 rfl) (kp_1418 44 rfl) (kp_1418 45 rfl) (kp_1418 47 rfl) (kp_1418 48 rfl) (by omega) (by omega)
                        exact (hp _ _ _ hR_1416 hf_1419 (Or.inr rfl) (by first | omega | (intro h; omega) | exact Or.inl rfl | exact Or.inr rfl) (by first | omega | (intro h; omega) | exact Or.inl rfl | exact Or.inr rfl) (by first | omega | (intro h; omega) | exact Or.inl rfl | exact Or.inr rfl) (by first | omega | (intro h; omega) | exact Or.inl rfl | exact Or.inr rfl) (by first | omega | (intro h; omega) | exact Or.inl rfl | exact Or.inr rfl) (by first | (intro h; exfalso; omega) | exact fun _ => k_1431 | exact fun _ => (False.elim (by omega))) k_1430 u_1412 u_1413)
                      · have d_1432 := iEq c_1355
                        have i_1433 := u_1353 (by omega)
                        exact (hp _ _ _ hR_1256 hf_1257 (Or.inr rfl) (by first | omega | (intro h; omega) | exact Or.inl rfl | exact Or.inr rfl) (by first | omega | (intro h; omega) | exact Or.inl rfl | exact Or.inr rfl) (by first | omega | (intro h; omega) | exact Or.inl rfl | exact Or.inr rfl) (by first | omega | (intro h; omega) | exact Or.inl rfl | exact Or.inr rfl) (by first | omega | (intro h; omega) | exact Or.inl rfl | exact Or.inr rfl) (by first | (intro h; exfalso; omega) | exact fun _ => k_1269 | exact fun _ => (False.elim (by omega))) k_1270 k_1271 k_1272)
                    · have d_1434 := iEq c_1348
                      refine y_Model_wrong hok hw ra hz14 hz15 hR_1256 (fun I_1438 L_1439 hR_1440 fr_1441 kp_1442 u_1436 u_1437 => ⟨I_1438, L_1439, rfl, rfl, ?_⟩)
                      have hf_1443 : Fm (fun c => c = o ∨ (o + 30 ≤ c ∧ c < o + 34)) I0 I_1438 := hf_1257.call fr_1441 (fun c hc => by first | exact hc | (dsimp only at hc ⊢; omega) | omega)
                      have t_1444 : (I_1438 o 3).toInt = (I_1254 o 3).toInt := by rw [kp_1442 3 rfl]
                      have g_1445 : (0 : Int) ≤ (I_1438 o 4).toInt ∧ (I_1438 o 4).toInt ≤ 5 := hR_1440.at0 ra 4 (by decide)
                      have t_1446 : (I_1438 o 6).toInt = (I_1254 o 6).toInt := by rw [kp_1442 6 rfl]
                      have t_1447 : (I_1438 o 7).toInt = (I_1254 o 7).toInt := by rw [kp_1442 7 rfl]
                      have t_1448 : (I_1438 o 8).toInt = (I_1254 o 8).toInt := by rw [kp_1442 8 rfl]
                      have t_1449 : (I_1438 o 9).toInt = (I_1254 o 9).toInt := by rw [kp_1442 9 rfl]
                      have t_1450 : (I_1438 o 44).toInt = (I_1254 o 44).toInt := by rw [kp_1442 44 rfl]
                      have t_1451 : (I_1438 o 45).toInt = (I_1254 o 45).toInt := by rw [kp_1442 45 rfl]
                      have t_1452 : (I_1438 o 47).toInt = (I_1254 o 47).toInt := by rw [kp_1442 47 rfl]
                      have t_1453 : (I_1438 o 48).toInt = (I_1254 o 48).toInt := by rw [kp_1442 48 rfl]
                      have t_1454 : (I_1438 o 46).toInt = (I_1254 o 46).toInt := by rw [kp_1442 46 rfl]
                      have k_1455 : EX 0 0 0 f0 1 I_1438 o := k_1269.fr (fr_1441 _ (by first | omega | (dsimp only; omega))) (fr_1441 _ (by first | omega | (dsimp only; omega))) (fr_1441 _ (by first | omega | (dsimp only; omega))) (fr_1441 _ (by first | omega | (dsimp only; omega))) (fr_1441 _ (by first | omega | (dsimp only; omega))) (kp_1442 3 rfl) (kp_1442 6 rfl) (kp_1442 44 rfl) (kp_1442 45 rfl) (kp_1442 47 rfl) (kp_1442 48 rfl)
                      have k_1456 : MTd I_1438 o := k_1270.fr (fr_1441 _ (by first | omega | (dsimp only; omega))) (fr_1441 _ (by first | omega | (dsimp only; omega))) (fr_1441 _ (by first | omega | (dsimp only; omega)))
                      have k_1457 : MPo I_1438 o := k_1271.fr (kp_1442 8 rfl) (kp_1442 9 rfl)
                      have k_1458 : MTk I_1438 o := k_1272.fr (kp_1442 6 rfl) (kp_1442 7 rfl) (kp_1442 8 rfl)
                      refine y_Model_isGood hok hw ra hR_1440 (fun r_1459 u_1460 u_1461 u_1462 => ⟨r_1459, I_1438, L_1439, rfl, rfl, ?_⟩)
                      have b_1463 : 0 ≤ r_1459.toInt ∧ r_1459.toInt ≤ 1 := u_1460.rg
                      refine ⟨fun c_1464 => ?_, fun c_1464 => ?_⟩
                      · have d_1465 := iNe c_1464
                        have i_1466 := u_1461 (by omega)
                        refine y_Model_pile hok hw ra hz58 (by first | omega | (intro h; omega) | exact Or.inl rfl | exact Or.inr rfl) (by first | omega | (intro h; omega) | exact Or.inl rfl | exact Or.inr rfl) hR_1440 (fun I_1471 L_1472 hR_1473 fr_1474 kp_1475 u_1468 u_1469 u_1470 => ⟨I_1471, L_1472, rfl, rfl, ?_⟩)
                        have hf_1476 : Fm (fun c => c = o ∨ (o + 30 ≤ c ∧ c < o + 34)) I0 I_1471 := hf_1443.call fr_1474 (fun c hc => by first | exact hc | (dsimp only at hc ⊢; omega) | omega)
                        have t_1477 : (I_1471 o 3).toInt = (I_1438 o 3).toInt := by rw [kp_1475 3 rfl]
                        have t_1478 : (I_1471 o 4).toInt = (I_1438 o 4).toInt := by rw [kp_1475 4 rfl]
                        have t_1479 : (I_1471 o 6).toInt = (I_1438 o 6).toInt := by rw [kp_1475 6 rfl]
                        have t_1480 : (I_1471 o 7).toInt = (I_1438 o 7).toInt := by rw [kp_1475 7 rfl]
                        have t_1481 : (I_1471 o 8).toInt = (I_1438 o 8).toInt := by rw [kp_1475 8 rfl]
                        have t_1482 : (I_1471 o 9).toInt = (I_1438 o 9).toInt := by rw [kp_1475 9 rfl]
                        have t_1483 : (I_1471 o 44).toInt = (I_1438 o 44).toInt := by rw [kp_1475 44 rfl]
                        have t_1484 : (I_1471 o 45).toInt = (I_1438 o 45).toInt := by rw [kp_1475 45 rfl]
                        have t_1485 : (I_1471 o 47).toInt = (I_1438 o 47).toInt := by rw [kp_1475 47 rfl]
                        have g_1486 : (0 : Int) ≤ (I_1471 o 48).toInt ∧ (I_1471 o 48).toInt ≤ 80 := hR_1473.at0 ra 48 (by decide)
                        have t_1487 : (I_1471 o 46).toInt = (I_1438 o 46).toInt := by rw [kp_1475 46 rfl]
                        have k_1488 : MTd I_1471 o := k_1456.fr (fr_1474 _ (by first | omega | (dsimp only; omega))) (fr_1474 _ (by first | omega | (dsimp only; omega))) (fr_1474 _ (by first | omega | (dsimp only; omega)))
                        have k_1489 : MPo I_1471 o := k_1457.fr (kp_1475 8 rfl) (kp_1475 9 rfl)
                        have k_1490 : MTk I_1471 o := k_1458.fr (kp_1475 6 rfl) (kp_1475 7 rfl) (kp_1475 8 rfl)
                        have k_1491 : EX 0 1 1 f0 1 I_1471 o := by have z := EX.push k_1455 (v := 7) (s := 0) (dB := 1) (dO := 0) (wt' := 1) (by decide) (by decide) (by decide) (by omega) ⟨by decide, by decide⟩ ⟨fun h => absurd h (by decide), fun h => absurd h (by decide)⟩ (Or.inl rfl) (fr_1474 _ (by first | omega | (dsimp only; omega))) (fr_1474 _ (by first | omega | (dsimp only; omega))) (fr_1474 _ (by first | omega | (dsimp only; omega))) u_1468 u_1469 (kp_1475 3 rfl) (kp_1475 6 rfl) (kp_1475 44 rfl) (kp_1475 45 rfl) (kp_1475 47 rfl) u_1470; exact EX.chg (b' := 1) z rfl rfl rfl rfl rfl rfl rfl rfl rfl rfl (by omega) z.pl
                        have g_1492 : (0 : Int) ≤ (I_1471 o 47).toInt ∧ (I_1471 o 47).toInt ≤ 7 := hR_1473.at0 ra 47 (by decide)
                        have a_1493 : ((I_1471 o 47) + 1).toInt = (I_1471 o 47).toInt + (1 : Int32).toInt := tAdd (by omega) (by omega)
                        refine fun I_1494 e_1495 => ?_
                        have hR_1496 : RI R I_1494 := hR_1473.up0 (k := 47) ra (by decide) (Or.inr hz57) e_1495 (show (0 : Int) ≤ ((I_1471 o 47) + 1).toInt by omega) (show ((I_1471 o 47) + 1).toInt ≤ (7 : Int) by omega)
                        have hf_1497 : Fm (fun c => c = o ∨ (o + 30 ≤ c ∧ c < o + 34)) I0 I_1494 := hf_1476.set (by first | rfl | omega | (dsimp only; omega)) e_1495
                        have t_1498 : (I_1494 o 3).toInt = (I_1471 o 3).toInt := by rw [← e_1495, q_u_k (by decide)]
                        have t_1499 : (I_1494 o 4).toInt = (I_1471 o 4).toInt := by rw [← e_1495, q_u_k (by decide)]
                        have t_1500 : (I_1494 o 6).toInt = (I_1471 o 6).toInt := by rw [← e_1495, q_u_k (by decide)]
                        have t_1501 : (I_1494 o 7).toInt = (I_1471 o 7).toInt := by rw [← e_1495, q_u_k (by decide)]
                        have t_1502 : (I_1494 o 8).toInt = (I_1471 o 8).toInt := by rw [← e_1495, q_u_k (by decide)]
                        have t_1503 : (I_1494 o 9).toInt = (I_1471 o 9).toInt := by rw [← e_1495, q_u_k (by decide)]
                        have t_1504 : (I_1494 o 44).toInt = (I_1471 o 44).toInt := by rw [← e_1495, q_u_k (by decide)]
                        have t_1505 : (I_1494 o 45).toInt = (I_1471 o 45).toInt := by rw [← e_1495, q_u_k (by decide)]
                        have t_1506 : (I_1494 o 47).toInt = ((I_1471 o 47) + 1).toInt := by rw [← e_1495, q_u_at]
                        have t_1507 : (I_1494 o 48).toInt = (I_1471 o 48).toInt := by rw [← e_1495, q_u_k (by decide)]
                        have t_1508 : (I_1494 o 46).toInt = (I_1471 o 46).toInt := by rw [← e_1495, q_u_k (by decide)]
                        have k_1509 : MTd I_1494 o := k_1488.fr (by rw [← e_1495]; exact q_u_ne (by omega)) (by rw [← e_1495]; exact q_u_ne (by omega)) (by rw [← e_1495]; exact q_u_ne (by omega))
                        have k_1510 : MPo I_1494 o := k_1489.fr (by rw [← e_1495, q_u_k (by decide)]) (by rw [← e_1495, q_u_k (by decide)])
                        have k_1511 : MTk I_1494 o := k_1490.fr (by rw [← e_1495, q_u_k (by decide)]) (by rw [← e_1495, q_u_k (by decide)]) (by rw [← e_1495, q_u_k (by decide)])
                        have tk := k_1511.2 (by omega)
                        have k_1513 : EX 0 0 1 f0 1 I_1494 o := by exact EX.put47 k_1491 e_1495 (by omega)
                        refine y_Model_next hok hw ra hz16 hz17 hz18 hz19 (by first | omega | (intro h; omega) | exact Or.inl rfl | exact Or.inr rfl) hR_1496 (fun I_1523 L_1524 hR_1525 fr_1526 kp_1527 u_1515 u_1516 u_1517 u_1518 u_1519 u_1520 u_1521 u_1522 => ⟨I_1523, L_1524, rfl, rfl, ?_⟩)
                        have hf_1528 : Fm (fun c => c = o ∨ (o + 30 ≤ c ∧ c < o + 34)) I0 I_1523 := hf_1497.call fr_1526 (fun c hc => by first | exact hc | (dsimp only at hc ⊢; omega) | omega)
                        have t_1529 : (I_1523 o 3).toInt = (I_1494 o 3).toInt := by rw [kp_1527 3 rfl]
                        have t_1530 : (I_1523 o 4).toInt = (I_1494 o 4).toInt := by rw [kp_1527 4 rfl]
                        have g_1531 : (0 : Int) ≤ (I_1523 o 6).toInt ∧ (I_1523 o 6).toInt ≤ 1600 := hR_1525.at0 ra 6 (by decide)
                        have g_1532 : (0 : Int) ≤ (I_1523 o 7).toInt ∧ (I_1523 o 7).toInt ≤ 1601 := hR_1525.at0 ra 7 (by decide)
                        have g_1533 : (0 : Int) ≤ (I_1523 o 8).toInt ∧ (I_1523 o 8).toInt ≤ 6 := hR_1525.at0 ra 8 (by decide)
                        have t_1534 : (I_1523 o 44).toInt = (I_1494 o 44).toInt := by rw [kp_1527 44 rfl]
                        have t_1535 : (I_1523 o 45).toInt = (I_1494 o 45).toInt := by rw [kp_1527 45 rfl]
                        have t_1536 : (I_1523 o 47).toInt = (I_1494 o 47).toInt := by rw [kp_1527 47 rfl]
                        have t_1537 : (I_1523 o 48).toInt = (I_1494 o 48).toInt := by rw [kp_1527 48 rfl]
                        have t_1538 : (I_1523 o 46).toInt = (I_1494 o 46).toInt := by rw [kp_1527 46 rfl]
                        have k_1539 : MTd I_1523 o := k_1509.fr (fr_1526 _ (by first | omega | (dsimp only; omega))) (fr_1526 _ (by first | omega | (dsimp only; omega))) (fr_1526 _ (by first | omega | (dsimp only; omega)))
                        have ms := u_1518 (by omega)
                        have k_1540 : EX 0 0 0 f0 1 I_1523 o := by exact EX.nx k_1513 (fr_1526 _ (by first | omega | (dsimp only; omega))) (fr_1526 _ (by first | omega | (dsimp only; omega))) (fr_1526 _ (by first | omega | (dsimp only; omega))) (fr_1526 _ (by first | omega | (dsimp only; omega))) (fr_1526 _ (by first | omega | (dsimp only; omega))) (kp_1527 3 rfl) (kp_1527 44 rfl) (kp_1527 45 rfl) (kp_1527 47 rfl) (kp_1527 48 rfl) (by omega) (by omega)
                        exact (hp _ _ _ hR_1525 hf_1528 (Or.inr rfl) (by first | omega | (intro h; omega) | exact Or.inl rfl | exact Or.inr rfl) (by first | omega | (intro h; omega) | exact Or.inl rfl | exact Or.inr rfl) (by first | omega | (intro h; omega) | exact Or.inl rfl | exact Or.inr rfl) (by first | omega | (intro h; omega) | exact Or.inl rfl | exact Or.inr rfl) (by first | omega | (intro h; omega) | exact Or.inl rfl | exact Or.inr rfl) (by first | (intro h; exfalso; omega) | exact fun _ => k_1540 | exact fun _ => (False.elim (by omega))) k_1539 u_1521 u_1522)
                      · have d_1541 := iEq c_1464
                        have i_1542 := u_1462 (by omega)
                        exact (hp _ _ _ hR_1440 hf_1443 (Or.inr rfl) (by first | omega | (intro h; omega) | exact Or.inl rfl | exact Or.inr rfl) (by first | omega | (intro h; omega) | exact Or.inl rfl | exact Or.inr rfl) (by first | omega | (intro h; omega) | exact Or.inl rfl | exact Or.inr rfl) (by first | omega | (intro h; omega) | exact Or.inl rfl | exact Or.inr rfl) (by first | omega | (intro h; omega) | exact Or.inl rfl | exact Or.inr rfl) (by first | (intro h; exfalso; omega) | exact fun _ => k_1455 | exact fun _ => (False.elim (by omega))) k_1456 k_1457 k_1458)
                · have d_1543 := iEq c_1249
                  have i_1544 := u_1247 (by omega)
                  exact (hp _ _ _ hR_1225 hf_1228 (Or.inr rfl) (by first | omega | (intro h; omega) | exact Or.inl rfl | exact Or.inr rfl) (by first | omega | (intro h; omega) | exact Or.inl rfl | exact Or.inr rfl) (by first | omega | (intro h; omega) | exact Or.inl rfl | exact Or.inr rfl) (by first | omega | (intro h; omega) | exact Or.inl rfl | exact Or.inr rfl) (by first | omega | (intro h; omega) | exact Or.inl rfl | exact Or.inr rfl) (by first | (intro h; exfalso; omega) | exact fun _ => k_1240 | exact fun _ => (False.elim (by omega))) k_1241 k_1242 k_1243)
            · have d_1545 := iNe c_912
              have l_1546 : (40 : Int32).toInt = 40 := rfl
              refine y_Model_is hok hw ra hR_34 (fun r_1547 u_1548 u_1549 u_1550 => ⟨r_1547, I_32, L_33, rfl, rfl, ?_⟩)
              have b_1551 : 0 ≤ r_1547.toInt ∧ r_1547.toInt ≤ 1 := u_1548.rg
              refine ⟨fun c_1552 => ?_, fun c_1552 => ?_⟩
              · have d_1553 := iEq c_1552
                unfold fModel_unit_140
                refine y_Model_wrong hok hw ra hz14 hz15 hR_34 (fun I_1557 L_1558 hR_1559 fr_1560 kp_1561 u_1555 u_1556 => ⟨I_1557, L_1558, rfl, rfl, ?_⟩)
                have hf_1562 : Fm (fun c => c = o ∨ (o + 30 ≤ c ∧ c < o + 34)) I0 I_1557 := hf_37.call fr_1560 (fun c hc => by first | exact hc | (dsimp only at hc ⊢; omega) | omega)
                have t_1563 : (I_1557 o 3).toInt = (I_32 o 3).toInt := by rw [kp_1561 3 rfl]
                have g_1564 : (0 : Int) ≤ (I_1557 o 4).toInt ∧ (I_1557 o 4).toInt ≤ 5 := hR_1559.at0 ra 4 (by decide)
                have t_1565 : (I_1557 o 6).toInt = (I_32 o 6).toInt := by rw [kp_1561 6 rfl]
                have t_1566 : (I_1557 o 7).toInt = (I_32 o 7).toInt := by rw [kp_1561 7 rfl]
                have t_1567 : (I_1557 o 8).toInt = (I_32 o 8).toInt := by rw [kp_1561 8 rfl]
                have t_1568 : (I_1557 o 9).toInt = (I_32 o 9).toInt := by rw [kp_1561 9 rfl]
                have t_1569 : (I_1557 o 44).toInt = (I_32 o 44).toInt := by rw [kp_1561 44 rfl]
                have t_1570 : (I_1557 o 45).toInt = (I_32 o 45).toInt := by rw [kp_1561 45 rfl]
                have t_1571 : (I_1557 o 47).toInt = (I_32 o 47).toInt := by rw [kp_1561 47 rfl]
                have t_1572 : (I_1557 o 48).toInt = (I_32 o 48).toInt := by rw [kp_1561 48 rfl]
                have k_1573 : EX 0 0 0 f0 1 I_1557 o := k_48.fr (fr_1560 _ (by first | omega | (dsimp only; omega))) (fr_1560 _ (by first | omega | (dsimp only; omega))) (fr_1560 _ (by first | omega | (dsimp only; omega))) (fr_1560 _ (by first | omega | (dsimp only; omega))) (fr_1560 _ (by first | omega | (dsimp only; omega))) (kp_1561 3 rfl) (kp_1561 6 rfl) (kp_1561 44 rfl) (kp_1561 45 rfl) (kp_1561 47 rfl) (kp_1561 48 rfl)
                have k_1574 : MTd I_1557 o := k_49.fr (fr_1560 _ (by first | omega | (dsimp only; omega))) (fr_1560 _ (by first | omega | (dsimp only; omega))) (fr_1560 _ (by first | omega | (dsimp only; omega)))
                have k_1575 : MPo I_1557 o := k_50.fr (kp_1561 8 rfl) (kp_1561 9 rfl)
                have k_1576 : MTk I_1557 o := k_51.fr (kp_1561 6 rfl) (kp_1561 7 rfl) (kp_1561 8 rfl)
                refine y_Model_isGood hok hw ra hR_1559 (fun r_1577 u_1578 u_1579 u_1580 => ⟨r_1577, I_1557, L_1558, rfl, rfl, ?_⟩)
                have b_1581 : 0 ≤ r_1577.toInt ∧ r_1577.toInt ≤ 1 := u_1578.rg
                refine ⟨fun c_1582 => ?_, fun c_1582 => ?_⟩
                · have d_1583 := iNe c_1582
                  have i_1584 := u_1579 (by omega)
                  have g_1585 : (0 : Int) ≤ (I_1557 o 46).toInt ∧ (I_1557 o 46).toInt ≤ 100 := hR_1559.at0 ra 46 (by decide)
                  have a_1586 : ((I_1557 o 46) + 1).toInt = (I_1557 o 46).toInt + (1 : Int32).toInt := tAdd (by omega) (by omega)
                  refine fun I_1587 e_1588 => ?_
                  have hR_1589 : RI R I_1587 := hR_1559.up0 (k := 46) ra (by decide) (Or.inr hz56) e_1588 (show (0 : Int) ≤ ((I_1557 o 46) + 1).toInt by omega) (show ((I_1557 o 46) + 1).toInt ≤ (100 : Int) by omega)
                  have hf_1590 : Fm (fun c => c = o ∨ (o + 30 ≤ c ∧ c < o + 34)) I0 I_1587 := hf_1562.set (by first | rfl | omega | (dsimp only; omega)) e_1588
                  have t_1591 : (I_1587 o 3).toInt = (I_1557 o 3).toInt := by rw [← e_1588, q_u_k (by decide)]
                  have t_1592 : (I_1587 o 4).toInt = (I_1557 o 4).toInt := by rw [← e_1588, q_u_k (by decide)]
                  have t_1593 : (I_1587 o 6).toInt = (I_1557 o 6).toInt := by rw [← e_1588, q_u_k (by decide)]
                  have t_1594 : (I_1587 o 7).toInt = (I_1557 o 7).toInt := by rw [← e_1588, q_u_k (by decide)]
                  have t_1595 : (I_1587 o 8).toInt = (I_1557 o 8).toInt := by rw [← e_1588, q_u_k (by decide)]
                  have t_1596 : (I_1587 o 9).toInt = (I_1557 o 9).toInt := by rw [← e_1588, q_u_k (by decide)]
                  have t_1597 : (I_1587 o 44).toInt = (I_1557 o 44).toInt := by rw [← e_1588, q_u_k (by decide)]
                  have t_1598 : (I_1587 o 45).toInt = (I_1557 o 45).toInt := by rw [← e_1588, q_u_k (by decide)]
                  have t_1599 : (I_1587 o 47).toInt = (I_1557 o 47).toInt := by rw [← e_1588, q_u_k (by decide)]
                  have t_1600 : (I_1587 o 48).toInt = (I_1557 o 48).toInt := by rw [← e_1588, q_u_k (by decide)]
                  have t_1601 : (I_1587 o 46).toInt = ((I_1557 o 46) + 1).toInt := by rw [← e_1588, q_u_at]
                  have k_1602 : EX 0 0 0 f0 1 I_1587 o := k_1573.fr (by rw [← e_1588]; exact q_u_ne (by omega)) (by rw [← e_1588]; exact q_u_ne (by omega)) (by rw [← e_1588]; exact q_u_ne (by omega)) (by rw [← e_1588]; exact q_u_ne (by omega)) (by rw [← e_1588]; exact q_u_ne (by omega)) (by rw [← e_1588, q_u_k (by decide)]) (by rw [← e_1588, q_u_k (by decide)]) (by rw [← e_1588, q_u_k (by decide)]) (by rw [← e_1588, q_u_k (by decide)]) (by rw [← e_1588, q_u_k (by decide)]) (by rw [← e_1588, q_u_k (by decide)])
                  have k_1603 : MTd I_1587 o := k_1574.fr (by rw [← e_1588]; exact q_u_ne (by omega)) (by rw [← e_1588]; exact q_u_ne (by omega)) (by rw [← e_1588]; exact q_u_ne (by omega))
                  have k_1604 : MPo I_1587 o := k_1575.fr (by rw [← e_1588, q_u_k (by decide)]) (by rw [← e_1588, q_u_k (by decide)])
                  have k_1605 : MTk I_1587 o := k_1576.fr (by rw [← e_1588, q_u_k (by decide)]) (by rw [← e_1588, q_u_k (by decide)]) (by rw [← e_1588, q_u_k (by decide)])
                  refine y_Model_is hok hw ra hR_1589 (fun r_1606 u_1607 u_1608 u_1609 => ⟨r_1606, I_1587, L_1558, rfl, rfl, ?_⟩)
                  have b_1610 : 0 ≤ r_1606.toInt ∧ r_1606.toInt ≤ 1 := u_1607.rg
                  refine ⟨fun c_1611 => ?_, fun c_1611 => ?_⟩
                  · have d_1612 := iEq c_1611
                    have cd := k_1602.cod
                    have tk := k_1605.2 (by omega)
                    refine ⟨fun c_1613 => ?_, fun c_1613 => ?_⟩
                    · have d_1614 := iNe c_1613
                      have i_1615 := u_29 (by omega)
                      have i_1616 := u_30 (by omega)
                      exfalso; omega
                    · have d_1617 := iEq c_1613
                      unfold fModel_unit_228
                      have l_1618 : (78 : Int32).toInt = 78 := rfl
                      refine ⟨fun c_1619 => ?_, fun c_1619 => ?_⟩
                      · have d_1620 := iNe c_1619
                        have i_1621 := u_29 (by omega)
                        have i_1622 := u_30 (by omega)
                        exfalso; omega
                      · have d_1623 := iEq c_1619
                        refine y_Model_step hok hw ra hz55 (by first | omega | (intro h; omega) | exact Or.inl rfl | exact Or.inr rfl) (by first | omega | (intro h; omega) | exact Or.inl rfl | exact Or.inr rfl) hR_1589 (fun I_1627 L_1628 hR_1629 fr_1630 kp_1631 u_1625 u_1626 => ⟨I_1627, L_1628, rfl, rfl, ?_⟩)
                        have hf_1632 : Fm (fun c => c = o ∨ (o + 30 ≤ c ∧ c < o + 34)) I0 I_1627 := hf_1590.call fr_1630 (fun c hc => by first | exact hc | (dsimp only at hc ⊢; omega) | omega)
                        have t_1633 : (I_1627 o 3).toInt = (I_1587 o 3).toInt := by rw [kp_1631 3 rfl]
                        have t_1634 : (I_1627 o 4).toInt = (I_1587 o 4).toInt := by rw [kp_1631 4 rfl]
                        have t_1635 : (I_1627 o 6).toInt = (I_1587 o 6).toInt := by rw [kp_1631 6 rfl]
                        have t_1636 : (I_1627 o 7).toInt = (I_1587 o 7).toInt := by rw [kp_1631 7 rfl]
                        have t_1637 : (I_1627 o 8).toInt = (I_1587 o 8).toInt := by rw [kp_1631 8 rfl]
                        have t_1638 : (I_1627 o 9).toInt = (I_1587 o 9).toInt := by rw [kp_1631 9 rfl]
                        have t_1639 : (I_1627 o 44).toInt = (I_1587 o 44).toInt := by rw [kp_1631 44 rfl]
                        have g_1640 : (0 : Int) ≤ (I_1627 o 45).toInt ∧ (I_1627 o 45).toInt ≤ 700 := hR_1629.at0 ra 45 (by decide)
                        have t_1641 : (I_1627 o 47).toInt = (I_1587 o 47).toInt := by rw [kp_1631 47 rfl]
                        have t_1642 : (I_1627 o 48).toInt = (I_1587 o 48).toInt := by rw [kp_1631 48 rfl]
                        have t_1643 : (I_1627 o 46).toInt = (I_1587 o 46).toInt := by rw [kp_1631 46 rfl]
                        have k_1644 : MPo I_1627 o := k_1604.fr (kp_1631 8 rfl) (kp_1631 9 rfl)
                        have k_1645 : MTk I_1627 o := k_1605.fr (kp_1631 6 rfl) (kp_1631 7 rfl) (kp_1631 8 rfl)
                        have tk := k_1645.2 (by omega)
                        have k_1646 : EX 0 0 1 f0 0 I_1627 o := by exact EX.step1 k_1602 (by first | exact u_29 (by omega) | (unfold isT; decide)) (by omega) (fr_1630 _ (by first | omega | (dsimp only; omega))) (fr_1630 _ (by first | omega | (dsimp only; omega))) u_1625 (fr_1630 _ (by first | omega | (dsimp only; omega))) (fr_1630 _ (by first | omega | (dsimp only; omega))) (kp_1631 3 rfl) (kp_1631 6 rfl) (kp_1631 44 rfl) u_1626 (kp_1631 47 rfl) (kp_1631 48 rfl)
                        have k_1647 : MTd I_1627 o := by exact MTd.step k_1603 (fr_1630 _ (by first | omega | (dsimp only; omega))) (fr_1630 _ (by first | omega | (dsimp only; omega))) u_1625 (by omega)
                        refine y_Model_next hok hw ra hz16 hz17 hz18 hz19 (by first | omega | (intro h; omega) | exact Or.inl rfl | exact Or.inr rfl) hR_1629 (fun I_1657 L_1658 hR_1659 fr_1660 kp_1661 u_1649 u_1650 u_1651 u_1652 u_1653 u_1654 u_1655 u_1656 => ⟨I_1657, L_1658, rfl, rfl, ?_⟩)
                        have hf_1662 : Fm (fun c => c = o ∨ (o + 30 ≤ c ∧ c < o + 34)) I0 I_1657 := hf_1632.call fr_1660 (fun c hc => by first | exact hc | (dsimp only at hc ⊢; omega) | omega)
                        have t_1663 : (I_1657 o 3).toInt = (I_1627 o 3).toInt := by rw [kp_1661 3 rfl]
                        have t_1664 : (I_1657 o 4).toInt = (I_1627 o 4).toInt := by rw [kp_1661 4 rfl]
                        have g_1665 : (0 : Int) ≤ (I_1657 o 6).toInt ∧ (I_1657 o 6).toInt ≤ 1600 := hR_1659.at0 ra 6 (by decide)
                        have g_1666 : (0 : Int) ≤ (I_1657 o 7).toInt ∧ (I_1657 o 7).toInt ≤ 1601 := hR_1659.at0 ra 7 (by decide)
                        have g_1667 : (0 : Int) ≤ (I_1657 o 8).toInt ∧ (I_1657 o 8).toInt ≤ 6 := hR_1659.at0 ra 8 (by decide)
                        have t_1668 : (I_1657 o 44).toInt = (I_1627 o 44).toInt := by rw [kp_1661 44 rfl]
                        have t_1669 : (I_1657 o 45).toInt = (I_1627 o 45).toInt := by rw [kp_1661 45 rfl]
                        have t_1670 : (I_1657 o 47).toInt = (I_1627 o 47).toInt := by rw [kp_1661 47 rfl]
                        have t_1671 : (I_1657 o 48).toInt = (I_1627 o 48).toInt := by rw [kp_1661 48 rfl]
                        have t_1672 : (I_1657 o 46).toInt = (I_1627 o 46).toInt := by rw [kp_1661 46 rfl]
                        have k_1673 : MTd I_1657 o := k_1647.fr (fr_1660 _ (by first | omega | (dsimp only; omega))) (fr_1660 _ (by first | omega | (dsimp only; omega))) (fr_1660 _ (by first | omega | (dsimp only; omega)))
                        have ms := u_1652 (by omega)
                        have k_1674 : EX 0 0 0 f0 0 I_1657 o := by exact EX.nx k_1646 (fr_1660 _ (by first | omega | (dsimp only; omega))) (fr_1660 _ (by first | omega | (dsimp only; omega))) (fr_1660 _ (by first | omega | (dsimp only; omega))) (fr_1660 _ (by first | omega | (dsimp only; omega))) (fr_1660 _ (by first | omega | (dsimp only; omega))) (kp_1661 3 rfl) (kp_1661 44 rfl) (kp_1661 45 rfl) (kp_1661 47 rfl) (kp_1661 48 rfl) (by omega) (by omega)
                        exact (hp _ _ _ hR_1659 hf_1662 (Or.inl rfl) (by first | omega | (intro h; omega) | exact Or.inl rfl | exact Or.inr rfl) (by first | omega | (intro h; omega) | exact Or.inl rfl | exact Or.inr rfl) (by first | omega | (intro h; omega) | exact Or.inl rfl | exact Or.inr rfl) (by first | omega | (intro h; omega) | exact Or.inl rfl | exact Or.inr rfl) (by first | omega | (intro h; omega) | exact Or.inl rfl | exact Or.inr rfl) (by first | (intro h; exfalso; omega) | exact fun _ => (False.elim (by omega)) | exact fun _ => k_1674) k_1673 u_1655 u_1656)
                  · have d_1675 := iNe c_1611
                    have i_1676 := u_1608 (by omega)
                    have i_1677 := u_1609 (by omega)
                    have g_1678 : (0 : Int) ≤ (I_1587 o 47).toInt ∧ (I_1587 o 47).toInt ≤ 7 := hR_1589.at0 ra 47 (by decide)
                    have l_1679 : (7 : Int32).toInt = 7 := rfl
                    refine ⟨fun c_1680 => ?_, fun c_1680 => ?_⟩
                    · have d_1681 := iNe c_1680
                      refine y_Model_isGood hok hw ra hR_1589 (fun r_1682 u_1683 u_1684 u_1685 => ⟨r_1682, I_1587, L_1558, rfl, rfl, ?_⟩)
                      have b_1686 : 0 ≤ r_1682.toInt ∧ r_1682.toInt ≤ 1 := u_1683.rg
                      refine ⟨fun c_1687 => ?_, fun c_1687 => ?_⟩
                      · have d_1688 := iNe c_1687
                        have i_1689 := u_1684 (by omega)
                        refine y_Model_pile hok hw ra hz58 (by first | omega | (intro h; omega) | exact Or.inl rfl | exact Or.inr rfl) (by first | omega | (intro h; omega) | exact Or.inl rfl | exact Or.inr rfl) hR_1589 (fun I_1694 L_1695 hR_1696 fr_1697 kp_1698 u_1691 u_1692 u_1693 => ⟨I_1694, L_1695, rfl, rfl, ?_⟩)
                        have hf_1699 : Fm (fun c => c = o ∨ (o + 30 ≤ c ∧ c < o + 34)) I0 I_1694 := hf_1590.call fr_1697 (fun c hc => by first | exact hc | (dsimp only at hc ⊢; omega) | omega)
                        have t_1700 : (I_1694 o 3).toInt = (I_1587 o 3).toInt := by rw [kp_1698 3 rfl]
                        have t_1701 : (I_1694 o 4).toInt = (I_1587 o 4).toInt := by rw [kp_1698 4 rfl]
                        have t_1702 : (I_1694 o 6).toInt = (I_1587 o 6).toInt := by rw [kp_1698 6 rfl]
                        have t_1703 : (I_1694 o 7).toInt = (I_1587 o 7).toInt := by rw [kp_1698 7 rfl]
                        have t_1704 : (I_1694 o 8).toInt = (I_1587 o 8).toInt := by rw [kp_1698 8 rfl]
                        have t_1705 : (I_1694 o 9).toInt = (I_1587 o 9).toInt := by rw [kp_1698 9 rfl]
                        have t_1706 : (I_1694 o 44).toInt = (I_1587 o 44).toInt := by rw [kp_1698 44 rfl]
                        have t_1707 : (I_1694 o 45).toInt = (I_1587 o 45).toInt := by rw [kp_1698 45 rfl]
                        have t_1708 : (I_1694 o 47).toInt = (I_1587 o 47).toInt := by rw [kp_1698 47 rfl]
                        have g_1709 : (0 : Int) ≤ (I_1694 o 48).toInt ∧ (I_1694 o 48).toInt ≤ 80 := hR_1696.at0 ra 48 (by decide)
                        have t_1710 : (I_1694 o 46).toInt = (I_1587 o 46).toInt := by rw [kp_1698 46 rfl]
                        have k_1711 : MTd I_1694 o := k_1603.fr (fr_1697 _ (by first | omega | (dsimp only; omega))) (fr_1697 _ (by first | omega | (dsimp only; omega))) (fr_1697 _ (by first | omega | (dsimp only; omega)))
                        have k_1712 : MPo I_1694 o := k_1604.fr (kp_1698 8 rfl) (kp_1698 9 rfl)
                        have k_1713 : MTk I_1694 o := k_1605.fr (kp_1698 6 rfl) (kp_1698 7 rfl) (kp_1698 8 rfl)
                        have k_1714 : EX 0 1 1 f0 1 I_1694 o := by have z := EX.push k_1602 (v := 7) (s := 0) (dB := 1) (dO := 0) (wt' := 1) (by decide) (by decide) (by decide) (by omega) ⟨by decide, by decide⟩ ⟨fun h => absurd h (by decide), fun h => absurd h (by decide)⟩ (Or.inl rfl) (fr_1697 _ (by first | omega | (dsimp only; omega))) (fr_1697 _ (by first | omega | (dsimp only; omega))) (fr_1697 _ (by first | omega | (dsimp only; omega))) u_1691 u_1692 (kp_1698 3 rfl) (kp_1698 6 rfl) (kp_1698 44 rfl) (kp_1698 45 rfl) (kp_1698 47 rfl) u_1693; exact EX.chg (b' := 1) z rfl rfl rfl rfl rfl rfl rfl rfl rfl rfl (by omega) z.pl
                        have g_1715 : (0 : Int) ≤ (I_1694 o 47).toInt ∧ (I_1694 o 47).toInt ≤ 7 := hR_1696.at0 ra 47 (by decide)
                        have a_1716 : ((I_1694 o 47) + 1).toInt = (I_1694 o 47).toInt + (1 : Int32).toInt := tAdd (by omega) (by omega)
                        refine fun I_1717 e_1718 => ?_
                        have hR_1719 : RI R I_1717 := hR_1696.up0 (k := 47) ra (by decide) (Or.inr hz57) e_1718 (show (0 : Int) ≤ ((I_1694 o 47) + 1).toInt by omega) (show ((I_1694 o 47) + 1).toInt ≤ (7 : Int) by omega)
                        have hf_1720 : Fm (fun c => c = o ∨ (o + 30 ≤ c ∧ c < o + 34)) I0 I_1717 := hf_1699.set (by first | rfl | omega | (dsimp only; omega)) e_1718
                        have t_1721 : (I_1717 o 3).toInt = (I_1694 o 3).toInt := by rw [← e_1718, q_u_k (by decide)]
                        have t_1722 : (I_1717 o 4).toInt = (I_1694 o 4).toInt := by rw [← e_1718, q_u_k (by decide)]
                        have t_1723 : (I_1717 o 6).toInt = (I_1694 o 6).toInt := by rw [← e_1718, q_u_k (by decide)]
                        have t_1724 : (I_1717 o 7).toInt = (I_1694 o 7).toInt := by rw [← e_1718, q_u_k (by decide)]
                        have t_1725 : (I_1717 o 8).toInt = (I_1694 o 8).toInt := by rw [← e_1718, q_u_k (by decide)]
                        have t_1726 : (I_1717 o 9).toInt = (I_1694 o 9).toInt := by rw [← e_1718, q_u_k (by decide)]
                        have t_1727 : (I_1717 o 44).toInt = (I_1694 o 44).toInt := by rw [← e_1718, q_u_k (by decide)]
                        have t_1728 : (I_1717 o 45).toInt = (I_1694 o 45).toInt := by rw [← e_1718, q_u_k (by decide)]
                        have t_1729 : (I_1717 o 47).toInt = ((I_1694 o 47) + 1).toInt := by rw [← e_1718, q_u_at]
                        have t_1730 : (I_1717 o 48).toInt = (I_1694 o 48).toInt := by rw [← e_1718, q_u_k (by decide)]
                        have t_1731 : (I_1717 o 46).toInt = (I_1694 o 46).toInt := by rw [← e_1718, q_u_k (by decide)]
                        have k_1732 : MTd I_1717 o := k_1711.fr (by rw [← e_1718]; exact q_u_ne (by omega)) (by rw [← e_1718]; exact q_u_ne (by omega)) (by rw [← e_1718]; exact q_u_ne (by omega))
                        have k_1733 : MPo I_1717 o := k_1712.fr (by rw [← e_1718, q_u_k (by decide)]) (by rw [← e_1718, q_u_k (by decide)])
                        have k_1734 : MTk I_1717 o := k_1713.fr (by rw [← e_1718, q_u_k (by decide)]) (by rw [← e_1718, q_u_k (by decide)]) (by rw [← e_1718, q_u_k (by decide)])
                        have tk := k_1734.2 (by omega)
                        have k_1736 : EX 0 0 1 f0 1 I_1717 o := by exact EX.put47 k_1714 e_1718 (by omega)
                        refine y_Model_next hok hw ra hz16 hz17 hz18 hz19 (by first | omega | (intro h; omega) | exact Or.inl rfl | exact Or.inr rfl) hR_1719 (fun I_1746 L_1747 hR_1748 fr_1749 kp_1750 u_1738 u_1739 u_1740 u_1741 u_1742 u_1743 u_1744 u_1745 => ⟨I_1746, L_1747, rfl, rfl, ?_⟩)
                        have hf_1751 : Fm (fun c => c = o ∨ (o + 30 ≤ c ∧ c < o + 34)) I0 I_1746 := hf_1720.call fr_1749 (fun c hc => by first | exact hc | (dsimp only at hc ⊢; omega) | omega)
                        have t_1752 : (I_1746 o 3).toInt = (I_1717 o 3).toInt := by rw [kp_1750 3 rfl]
                        have t_1753 : (I_1746 o 4).toInt = (I_1717 o 4).toInt := by rw [kp_1750 4 rfl]
                        have g_1754 : (0 : Int) ≤ (I_1746 o 6).toInt ∧ (I_1746 o 6).toInt ≤ 1600 := hR_1748.at0 ra 6 (by decide)
                        have g_1755 : (0 : Int) ≤ (I_1746 o 7).toInt ∧ (I_1746 o 7).toInt ≤ 1601 := hR_1748.at0 ra 7 (by decide)
                        have g_1756 : (0 : Int) ≤ (I_1746 o 8).toInt ∧ (I_1746 o 8).toInt ≤ 6 := hR_1748.at0 ra 8 (by decide)
                        have t_1757 : (I_1746 o 44).toInt = (I_1717 o 44).toInt := by rw [kp_1750 44 rfl]
                        have t_1758 : (I_1746 o 45).toInt = (I_1717 o 45).toInt := by rw [kp_1750 45 rfl]
                        have t_1759 : (I_1746 o 47).toInt = (I_1717 o 47).toInt := by rw [kp_1750 47 rfl]
                        have t_1760 : (I_1746 o 48).toInt = (I_1717 o 48).toInt := by rw [kp_1750 48 rfl]
                        have t_1761 : (I_1746 o 46).toInt = (I_1717 o 46).toInt := by rw [kp_1750 46 rfl]
                        have k_1762 : MTd I_1746 o := k_1732.fr (fr_1749 _ (by first | omega | (dsimp only; omega))) (fr_1749 _ (by first | omega | (dsimp only; omega))) (fr_1749 _ (by first | omega | (dsimp only; omega)))
                        have ms := u_1741 (by omega)
                        have k_1763 : EX 0 0 0 f0 1 I_1746 o := by exact EX.nx k_1736 (fr_1749 _ (by first | omega | (dsimp only; omega))) (fr_1749 _ (by first | omega | (dsimp only; omega))) (fr_1749 _ (by first | omega | (dsimp only; omega))) (fr_1749 _ (by first | omega | (dsimp only; omega))) (fr_1749 _ (by first | omega | (dsimp only; omega))) (kp_1750 3 rfl) (kp_1750 44 rfl) (kp_1750 45 rfl) (kp_1750 47 rfl) (kp_1750 48 rfl) (by omega) (by omega)
                        exact (hp _ _ _ hR_1748 hf_1751 (Or.inr rfl) (by first | omega | (intro h; omega) | exact Or.inl rfl | exact Or.inr rfl) (by first | omega | (intro h; omega) | exact Or.inl rfl | exact Or.inr rfl) (by first | omega | (intro h; omega) | exact Or.inl rfl | exact Or.inr rfl) (by first | omega | (intro h; omega) | exact Or.inl rfl | exact Or.inr rfl) (by first | omega | (intro h; omega) | exact Or.inl rfl | exact Or.inr rfl) (by first | (intro h; exfalso; omega) | exact fun _ => k_1763 | exact fun _ => (False.elim (by omega))) k_1762 u_1744 u_1745)
                      · have d_1764 := iEq c_1687
                        have i_1765 := u_1685 (by omega)
                        exact (hp _ _ _ hR_1589 hf_1590 (Or.inr rfl) (by first | omega | (intro h; omega) | exact Or.inl rfl | exact Or.inr rfl) (by first | omega | (intro h; omega) | exact Or.inl rfl | exact Or.inr rfl) (by first | omega | (intro h; omega) | exact Or.inl rfl | exact Or.inr rfl) (by first | omega | (intro h; omega) | exact Or.inl rfl | exact Or.inr rfl) (by first | omega | (intro h; omega) | exact Or.inl rfl | exact Or.inr rfl) (by first | (intro h; exfalso; omega) | exact fun _ => k_1602 | exact fun _ => (False.elim (by omega))) k_1603 k_1604 k_1605)
                    · have d_1766 := iEq c_1680
                      refine y_Model_wrong hok hw ra hz14 hz15 hR_1589 (fun I_1770 L_1771 hR_1772 fr_1773 kp_1774 u_1768 u_1769 => ⟨I_1770, L_1771, rfl, rfl, ?_⟩)
                      have hf_1775 : Fm (fun c => c = o ∨ (o + 30 ≤ c ∧ c < o + 34)) I0 I_1770 := hf_1590.call fr_1773 (fun c hc => by first | exact hc | (dsimp only at hc ⊢; omega) | omega)
                      have t_1776 : (I_1770 o 3).toInt = (I_1587 o 3).toInt := by rw [kp_1774 3 rfl]
                      have g_1777 : (0 : Int) ≤ (I_1770 o 4).toInt ∧ (I_1770 o 4).toInt ≤ 5 := hR_1772.at0 ra 4 (by decide)
                      have t_1778 : (I_1770 o 6).toInt = (I_1587 o 6).toInt := by rw [kp_1774 6 rfl]
                      have t_1779 : (I_1770 o 7).toInt = (I_1587 o 7).toInt := by rw [kp_1774 7 rfl]
                      have t_1780 : (I_1770 o 8).toInt = (I_1587 o 8).toInt := by rw [kp_1774 8 rfl]
                      have t_1781 : (I_1770 o 9).toInt = (I_1587 o 9).toInt := by rw [kp_1774 9 rfl]
                      have t_1782 : (I_1770 o 44).toInt = (I_1587 o 44).toInt := by rw [kp_1774 44 rfl]
                      have t_1783 : (I_1770 o 45).toInt = (I_1587 o 45).toInt := by rw [kp_1774 45 rfl]
                      have t_1784 : (I_1770 o 47).toInt = (I_1587 o 47).toInt := by rw [kp_1774 47 rfl]
                      have t_1785 : (I_1770 o 48).toInt = (I_1587 o 48).toInt := by rw [kp_1774 48 rfl]
                      have t_1786 : (I_1770 o 46).toInt = (I_1587 o 46).toInt := by rw [kp_1774 46 rfl]
                      have k_1787 : EX 0 0 0 f0 1 I_1770 o := k_1602.fr (fr_1773 _ (by first | omega | (dsimp only; omega))) (fr_1773 _ (by first | omega | (dsimp only; omega))) (fr_1773 _ (by first | omega | (dsimp only; omega))) (fr_1773 _ (by first | omega | (dsimp only; omega))) (fr_1773 _ (by first | omega | (dsimp only; omega))) (kp_1774 3 rfl) (kp_1774 6 rfl) (kp_1774 44 rfl) (kp_1774 45 rfl) (kp_1774 47 rfl) (kp_1774 48 rfl)
                      have k_1788 : MTd I_1770 o := k_1603.fr (fr_1773 _ (by first | omega | (dsimp only; omega))) (fr_1773 _ (by first | omega | (dsimp only; omega))) (fr_1773 _ (by first | omega | (dsimp only; omega)))
                      have k_1789 : MPo I_1770 o := k_1604.fr (kp_1774 8 rfl) (kp_1774 9 rfl)
                      have k_1790 : MTk I_1770 o := k_1605.fr (kp_1774 6 rfl) (kp_1774 7 rfl) (kp_1774 8 rfl)
                      refine y_Model_isGood hok hw ra hR_1772 (fun r_1791 u_1792 u_1793 u_1794 => ⟨r_1791, I_1770, L_1771, rfl, rfl, ?_⟩)
                      have b_1795 : 0 ≤ r_1791.toInt ∧ r_1791.toInt ≤ 1 := u_1792.rg
                      refine ⟨fun c_1796 => ?_, fun c_1796 => ?_⟩
                      · have d_1797 := iNe c_1796
                        have i_1798 := u_1793 (by omega)
                        refine y_Model_pile hok hw ra hz58 (by first | omega | (intro h; omega) | exact Or.inl rfl | exact Or.inr rfl) (by first | omega | (intro h; omega) | exact Or.inl rfl | exact Or.inr rfl) hR_1772 (fun I_1803 L_1804 hR_1805 fr_1806 kp_1807 u_1800 u_1801 u_1802 => ⟨I_1803, L_1804, rfl, rfl, ?_⟩)
                        have hf_1808 : Fm (fun c => c = o ∨ (o + 30 ≤ c ∧ c < o + 34)) I0 I_1803 := hf_1775.call fr_1806 (fun c hc => by first | exact hc | (dsimp only at hc ⊢; omega) | omega)
                        have t_1809 : (I_1803 o 3).toInt = (I_1770 o 3).toInt := by rw [kp_1807 3 rfl]
                        have t_1810 : (I_1803 o 4).toInt = (I_1770 o 4).toInt := by rw [kp_1807 4 rfl]
                        have t_1811 : (I_1803 o 6).toInt = (I_1770 o 6).toInt := by rw [kp_1807 6 rfl]
                        have t_1812 : (I_1803 o 7).toInt = (I_1770 o 7).toInt := by rw [kp_1807 7 rfl]
                        have t_1813 : (I_1803 o 8).toInt = (I_1770 o 8).toInt := by rw [kp_1807 8 rfl]
                        have t_1814 : (I_1803 o 9).toInt = (I_1770 o 9).toInt := by rw [kp_1807 9 rfl]
                        have t_1815 : (I_1803 o 44).toInt = (I_1770 o 44).toInt := by rw [kp_1807 44 rfl]
                        have t_1816 : (I_1803 o 45).toInt = (I_1770 o 45).toInt := by rw [kp_1807 45 rfl]
                        have t_1817 : (I_1803 o 47).toInt = (I_1770 o 47).toInt := by rw [kp_1807 47 rfl]
                        have g_1818 : (0 : Int) ≤ (I_1803 o 48).toInt ∧ (I_1803 o 48).toInt ≤ 80 := hR_1805.at0 ra 48 (by decide)
                        have t_1819 : (I_1803 o 46).toInt = (I_1770 o 46).toInt := by rw [kp_1807 46 rfl]
                        have k_1820 : MTd I_1803 o := k_1788.fr (fr_1806 _ (by first | omega | (dsimp only; omega))) (fr_1806 _ (by first | omega | (dsimp only; omega))) (fr_1806 _ (by first | omega | (dsimp only; omega)))
                        have k_1821 : MPo I_1803 o := k_1789.fr (kp_1807 8 rfl) (kp_1807 9 rfl)
                        have k_1822 : MTk I_1803 o := k_1790.fr (kp_1807 6 rfl) (kp_1807 7 rfl) (kp_1807 8 rfl)
                        have k_1823 : EX 0 1 1 f0 1 I_1803 o := by have z := EX.push k_1787 (v := 7) (s := 0) (dB := 1) (dO := 0) (wt' := 1) (by decide) (by decide) (by decide) (by omega) ⟨by decide, by decide⟩ ⟨fun h => absurd h (by decide), fun h => absurd h (by decide)⟩ (Or.inl rfl) (fr_1806 _ (by first | omega | (dsimp only; omega))) (fr_1806 _ (by first | omega | (dsimp only; omega))) (fr_1806 _ (by first | omega | (dsimp only; omega))) u_1800 u_1801 (kp_1807 3 rfl) (kp_1807 6 rfl) (kp_1807 44 rfl) (kp_1807 45 rfl) (kp_1807 47 rfl) u_1802; exact EX.chg (b' := 1) z rfl rfl rfl rfl rfl rfl rfl rfl rfl rfl (by omega) z.pl
                        have g_1824 : (0 : Int) ≤ (I_1803 o 47).toInt ∧ (I_1803 o 47).toInt ≤ 7 := hR_1805.at0 ra 47 (by decide)
                        have a_1825 : ((I_1803 o 47) + 1).toInt = (I_1803 o 47).toInt + (1 : Int32).toInt := tAdd (by omega) (by omega)
                        refine fun I_1826 e_1827 => ?_
                        have hR_1828 : RI R I_1826 := hR_1805.up0 (k := 47) ra (by decide) (Or.inr hz57) e_1827 (show (0 : Int) ≤ ((I_1803 o 47) + 1).toInt by omega) (show ((I_1803 o 47) + 1).toInt ≤ (7 : Int) by omega)
                        have hf_1829 : Fm (fun c => c = o ∨ (o + 30 ≤ c ∧ c < o + 34)) I0 I_1826 := hf_1808.set (by first | rfl | omega | (dsimp only; omega)) e_1827
                        have t_1830 : (I_1826 o 3).toInt = (I_1803 o 3).toInt := by rw [← e_1827, q_u_k (by decide)]
                        have t_1831 : (I_1826 o 4).toInt = (I_1803 o 4).toInt := by rw [← e_1827, q_u_k (by decide)]
                        have t_1832 : (I_1826 o 6).toInt = (I_1803 o 6).toInt := by rw [← e_1827, q_u_k (by decide)]
                        have t_1833 : (I_1826 o 7).toInt = (I_1803 o 7).toInt := by rw [← e_1827, q_u_k (by decide)]
                        have t_1834 : (I_1826 o 8).toInt = (I_1803 o 8).toInt := by rw [← e_1827, q_u_k (by decide)]
                        have t_1835 : (I_1826 o 9).toInt = (I_1803 o 9).toInt := by rw [← e_1827, q_u_k (by decide)]
                        have t_1836 : (I_1826 o 44).toInt = (I_1803 o 44).toInt := by rw [← e_1827, q_u_k (by decide)]
                        have t_1837 : (I_1826 o 45).toInt = (I_1803 o 45).toInt := by rw [← e_1827, q_u_k (by decide)]
                        have t_1838 : (I_1826 o 47).toInt = ((I_1803 o 47) + 1).toInt := by rw [← e_1827, q_u_at]
                        have t_1839 : (I_1826 o 48).toInt = (I_1803 o 48).toInt := by rw [← e_1827, q_u_k (by decide)]
                        have t_1840 : (I_1826 o 46).toInt = (I_1803 o 46).toInt := by rw [← e_1827, q_u_k (by decide)]
                        have k_1841 : MTd I_1826 o := k_1820.fr (by rw [← e_1827]; exact q_u_ne (by omega)) (by rw [← e_1827]; exact q_u_ne (by omega)) (by rw [← e_1827]; exact q_u_ne (by omega))
                        have k_1842 : MPo I_1826 o := k_1821.fr (by rw [← e_1827, q_u_k (by decide)]) (by rw [← e_1827, q_u_k (by decide)])
                        have k_1843 : MTk I_1826 o := k_1822.fr (by rw [← e_1827, q_u_k (by decide)]) (by rw [← e_1827, q_u_k (by decide)]) (by rw [← e_1827, q_u_k (by decide)])
                        have tk := k_1843.2 (by omega)
                        have k_1845 : EX 0 0 1 f0 1 I_1826 o := by exact EX.put47 k_1823 e_1827 (by omega)
                        refine y_Model_next hok hw ra hz16 hz17 hz18 hz19 (by first | omega | (intro h; omega) | exact Or.inl rfl | exact Or.inr rfl) hR_1828 (fun I_1855 L_1856 hR_1857 fr_1858 kp_1859 u_1847 u_1848 u_1849 u_1850 u_1851 u_1852 u_1853 u_1854 => ⟨I_1855, L_1856, rfl, rfl, ?_⟩)
                        have hf_1860 : Fm (fun c => c = o ∨ (o + 30 ≤ c ∧ c < o + 34)) I0 I_1855 := hf_1829.call fr_1858 (fun c hc => by first | exact hc | (dsimp only at hc ⊢; omega) | omega)
                        have t_1861 : (I_1855 o 3).toInt = (I_1826 o 3).toInt := by rw [kp_1859 3 rfl]
                        have t_1862 : (I_1855 o 4).toInt = (I_1826 o 4).toInt := by rw [kp_1859 4 rfl]
                        have g_1863 : (0 : Int) ≤ (I_1855 o 6).toInt ∧ (I_1855 o 6).toInt ≤ 1600 := hR_1857.at0 ra 6 (by decide)
                        have g_1864 : (0 : Int) ≤ (I_1855 o 7).toInt ∧ (I_1855 o 7).toInt ≤ 1601 := hR_1857.at0 ra 7 (by decide)
                        have g_1865 : (0 : Int) ≤ (I_1855 o 8).toInt ∧ (I_1855 o 8).toInt ≤ 6 := hR_1857.at0 ra 8 (by decide)
                        have t_1866 : (I_1855 o 44).toInt = (I_1826 o 44).toInt := by rw [kp_1859 44 rfl]
                        have t_1867 : (I_1855 o 45).toInt = (I_1826 o 45).toInt := by rw [kp_1859 45 rfl]
                        have t_1868 : (I_1855 o 47).toInt = (I_1826 o 47).toInt := by rw [kp_1859 47 rfl]
                        have t_1869 : (I_1855 o 48).toInt = (I_1826 o 48).toInt := by rw [kp_1859 48 rfl]
                        have t_1870 : (I_1855 o 46).toInt = (I_1826 o 46).toInt := by rw [kp_1859 46 rfl]
                        have k_1871 : MTd I_1855 o := k_1841.fr (fr_1858 _ (by first | omega | (dsimp only; omega))) (fr_1858 _ (by first | omega | (dsimp only; omega))) (fr_1858 _ (by first | omega | (dsimp only; omega)))
                        have ms := u_1850 (by omega)
                        have k_1872 : EX 0 0 0 f0 1 I_1855 o := by exact EX.nx k_1845 (fr_1858 _ (by first | omega | (dsimp only; omega))) (fr_1858 _ (by first | omega | (dsimp only; omega))) (fr_1858 _ (by first | omega | (dsimp only; omega))) (fr_1858 _ (by first | omega | (dsimp only; omega))) (fr_1858 _ (by first | omega | (dsimp only; omega))) (kp_1859 3 rfl) (kp_1859 44 rfl) (kp_1859 45 rfl) (kp_1859 47 rfl) (kp_1859 48 rfl) (by omega) (by omega)
                        exact (hp _ _ _ hR_1857 hf_1860 (Or.inr rfl) (by first | omega | (intro h; omega) | exact Or.inl rfl | exact Or.inr rfl) (by first | omega | (intro h; omega) | exact Or.inl rfl | exact Or.inr rfl) (by first | omega | (intro h; omega) | exact Or.inl rfl | exact Or.inr rfl) (by first | omega | (intro h; omega) | exact Or.inl rfl | exact Or.inr rfl) (by first | omega | (intro h; omega) | exact Or.inl rfl | exact Or.inr rfl) (by first | (intro h; exfalso; omega) | exact fun _ => k_1872 | exact fun _ => (False.elim (by omega))) k_1871 u_1853 u_1854)
                      · have d_1873 := iEq c_1796
                        have i_1874 := u_1794 (by omega)
                        exact (hp _ _ _ hR_1772 hf_1775 (Or.inr rfl) (by first | omega | (intro h; omega) | exact Or.inl rfl | exact Or.inr rfl) (by first | omega | (intro h; omega) | exact Or.inl rfl | exact Or.inr rfl) (by first | omega | (intro h; omega) | exact Or.inl rfl | exact Or.inr rfl) (by first | omega | (intro h; omega) | exact Or.inl rfl | exact Or.inr rfl) (by first | omega | (intro h; omega) | exact Or.inl rfl | exact Or.inr rfl) (by first | (intro h; exfalso; omega) | exact fun _ => k_1787 | exact fun _ => (False.elim (by omega))) k_1788 k_1789 k_1790)
                · have d_1875 := iEq c_1582
                  have i_1876 := u_1580 (by omega)
                  exact (hp _ _ _ hR_1559 hf_1562 (Or.inr rfl) (by first | omega | (intro h; omega) | exact Or.inl rfl | exact Or.inr rfl) (by first | omega | (intro h; omega) | exact Or.inl rfl | exact Or.inr rfl) (by first | omega | (intro h; omega) | exact Or.inl rfl | exact Or.inr rfl) (by first | omega | (intro h; omega) | exact Or.inl rfl | exact Or.inr rfl) (by first | omega | (intro h; omega) | exact Or.inl rfl | exact Or.inr rfl) (by first | (intro h; exfalso; omega) | exact fun _ => k_1573 | exact fun _ => (False.elim (by omega))) k_1574 k_1575 k_1576)
              · have d_1877 := iNe c_1552
                have i_1878 := u_1549 (by omega)
                have i_1879 := u_1550 (by omega)
                unfold fModel_unit_131
                have g_1880 : (0 : Int) ≤ (I_32 o 46).toInt ∧ (I_32 o 46).toInt ≤ 100 := hR_34.at0 ra 46 (by decide)
                have l_1881 : (100 : Int32).toInt = 100 := rfl
                refine ⟨fun c_1882 => ?_, fun c_1882 => ?_⟩
                · have d_1883 := iNe c_1882
                  refine y_Model_isGood hok hw ra hR_34 (fun r_1884 u_1885 u_1886 u_1887 => ⟨r_1884, I_32, L_33, rfl, rfl, ?_⟩)
                  have b_1888 : 0 ≤ r_1884.toInt ∧ r_1884.toInt ≤ 1 := u_1885.rg
                  refine ⟨fun c_1889 => ?_, fun c_1889 => ?_⟩
                  · have d_1890 := iNe c_1889
                    have i_1891 := u_1886 (by omega)
                    have g_1892 : (0 : Int) ≤ (I_32 o 46).toInt ∧ (I_32 o 46).toInt ≤ 100 := hR_34.at0 ra 46 (by decide)
                    have a_1893 : ((I_32 o 46) + 1).toInt = (I_32 o 46).toInt + (1 : Int32).toInt := tAdd (by omega) (by omega)
                    refine fun I_1894 e_1895 => ?_
                    have hR_1896 : RI R I_1894 := hR_34.up0 (k := 46) ra (by decide) (Or.inr hz56) e_1895 (show (0 : Int) ≤ ((I_32 o 46) + 1).toInt by omega) (show ((I_32 o 46) + 1).toInt ≤ (100 : Int) by omega)
                    have hf_1897 : Fm (fun c => c = o ∨ (o + 30 ≤ c ∧ c < o + 34)) I0 I_1894 := hf_37.set (by first | rfl | omega | (dsimp only; omega)) e_1895
                    have t_1898 : (I_1894 o 3).toInt = (I_32 o 3).toInt := by rw [← e_1895, q_u_k (by decide)]
                    have t_1899 : (I_1894 o 4).toInt = (I_32 o 4).toInt := by rw [← e_1895, q_u_k (by decide)]
                    have t_1900 : (I_1894 o 6).toInt = (I_32 o 6).toInt := by rw [← e_1895, q_u_k (by decide)]
                    have t_1901 : (I_1894 o 7).toInt = (I_32 o 7).toInt := by rw [← e_1895, q_u_k (by decide)]
                    have t_1902 : (I_1894 o 8).toInt = (I_32 o 8).toInt := by rw [← e_1895, q_u_k (by decide)]
                    have t_1903 : (I_1894 o 9).toInt = (I_32 o 9).toInt := by rw [← e_1895, q_u_k (by decide)]
                    have t_1904 : (I_1894 o 44).toInt = (I_32 o 44).toInt := by rw [← e_1895, q_u_k (by decide)]
                    have t_1905 : (I_1894 o 45).toInt = (I_32 o 45).toInt := by rw [← e_1895, q_u_k (by decide)]
                    have t_1906 : (I_1894 o 47).toInt = (I_32 o 47).toInt := by rw [← e_1895, q_u_k (by decide)]
                    have t_1907 : (I_1894 o 48).toInt = (I_32 o 48).toInt := by rw [← e_1895, q_u_k (by decide)]
                    have t_1908 : (I_1894 o 46).toInt = ((I_32 o 46) + 1).toInt := by rw [← e_1895, q_u_at]
                    have k_1909 : EX 0 0 0 f0 1 I_1894 o := k_48.fr (by rw [← e_1895]; exact q_u_ne (by omega)) (by rw [← e_1895]; exact q_u_ne (by omega)) (by rw [← e_1895]; exact q_u_ne (by omega)) (by rw [← e_1895]; exact q_u_ne (by omega)) (by rw [← e_1895]; exact q_u_ne (by omega)) (by rw [← e_1895, q_u_k (by decide)]) (by rw [← e_1895, q_u_k (by decide)]) (by rw [← e_1895, q_u_k (by decide)]) (by rw [← e_1895, q_u_k (by decide)]) (by rw [← e_1895, q_u_k (by decide)]) (by rw [← e_1895, q_u_k (by decide)])
                    have k_1910 : MTd I_1894 o := k_49.fr (by rw [← e_1895]; exact q_u_ne (by omega)) (by rw [← e_1895]; exact q_u_ne (by omega)) (by rw [← e_1895]; exact q_u_ne (by omega))
                    have k_1911 : MPo I_1894 o := k_50.fr (by rw [← e_1895, q_u_k (by decide)]) (by rw [← e_1895, q_u_k (by decide)])
                    have k_1912 : MTk I_1894 o := k_51.fr (by rw [← e_1895, q_u_k (by decide)]) (by rw [← e_1895, q_u_k (by decide)]) (by rw [← e_1895, q_u_k (by decide)])
                    refine y_Model_is hok hw ra hR_1896 (fun r_1913 u_1914 u_1915 u_1916 => ⟨r_1913, I_1894, L_33, rfl, rfl, ?_⟩)
                    have b_1917 : 0 ≤ r_1913.toInt ∧ r_1913.toInt ≤ 1 := u_1914.rg
                    refine ⟨fun c_1918 => ?_, fun c_1918 => ?_⟩
                    · have d_1919 := iEq c_1918
                      have cd := k_1909.cod
                      have tk := k_1912.2 (by omega)
                      refine ⟨fun c_1920 => ?_, fun c_1920 => ?_⟩
                      · have d_1921 := iNe c_1920
                        have i_1922 := u_29 (by omega)
                        have i_1923 := u_30 (by omega)
                        exfalso; omega
                      · have d_1924 := iEq c_1920
                        unfold fModel_unit_228
                        have l_1925 : (78 : Int32).toInt = 78 := rfl
                        refine ⟨fun c_1926 => ?_, fun c_1926 => ?_⟩
                        · have d_1927 := iNe c_1926
                          have i_1928 := u_29 (by omega)
                          have i_1929 := u_30 (by omega)
                          exfalso; omega
                        · have d_1930 := iEq c_1926
                          refine y_Model_step hok hw ra hz55 (by first | omega | (intro h; omega) | exact Or.inl rfl | exact Or.inr rfl) (by first | omega | (intro h; omega) | exact Or.inl rfl | exact Or.inr rfl) hR_1896 (fun I_1934 L_1935 hR_1936 fr_1937 kp_1938 u_1932 u_1933 => ⟨I_1934, L_1935, rfl, rfl, ?_⟩)
                          have hf_1939 : Fm (fun c => c = o ∨ (o + 30 ≤ c ∧ c < o + 34)) I0 I_1934 := hf_1897.call fr_1937 (fun c hc => by first | exact hc | (dsimp only at hc ⊢; omega) | omega)
                          have t_1940 : (I_1934 o 3).toInt = (I_1894 o 3).toInt := by rw [kp_1938 3 rfl]
                          have t_1941 : (I_1934 o 4).toInt = (I_1894 o 4).toInt := by rw [kp_1938 4 rfl]
                          have t_1942 : (I_1934 o 6).toInt = (I_1894 o 6).toInt := by rw [kp_1938 6 rfl]
                          have t_1943 : (I_1934 o 7).toInt = (I_1894 o 7).toInt := by rw [kp_1938 7 rfl]
                          have t_1944 : (I_1934 o 8).toInt = (I_1894 o 8).toInt := by rw [kp_1938 8 rfl]
                          have t_1945 : (I_1934 o 9).toInt = (I_1894 o 9).toInt := by rw [kp_1938 9 rfl]
                          have t_1946 : (I_1934 o 44).toInt = (I_1894 o 44).toInt := by rw [kp_1938 44 rfl]
                          have g_1947 : (0 : Int) ≤ (I_1934 o 45).toInt ∧ (I_1934 o 45).toInt ≤ 700 := hR_1936.at0 ra 45 (by decide)
                          have t_1948 : (I_1934 o 47).toInt = (I_1894 o 47).toInt := by rw [kp_1938 47 rfl]
                          have t_1949 : (I_1934 o 48).toInt = (I_1894 o 48).toInt := by rw [kp_1938 48 rfl]
                          have t_1950 : (I_1934 o 46).toInt = (I_1894 o 46).toInt := by rw [kp_1938 46 rfl]
                          have k_1951 : MPo I_1934 o := k_1911.fr (kp_1938 8 rfl) (kp_1938 9 rfl)
                          have k_1952 : MTk I_1934 o := k_1912.fr (kp_1938 6 rfl) (kp_1938 7 rfl) (kp_1938 8 rfl)
                          have tk := k_1952.2 (by omega)
                          have k_1953 : EX 0 0 1 f0 0 I_1934 o := by exact EX.step1 k_1909 (by first | exact u_29 (by omega) | (unfold isT; decide)) (by omega) (fr_1937 _ (by first | omega | (dsimp only; omega))) (fr_1937 _ (by first | omega | (dsimp only; omega))) u_1932 (fr_1937 _ (by first | omega | (dsimp only; omega))) (fr_1937 _ (by first | omega | (dsimp only; omega))) (kp_1938 3 rfl) (kp_1938 6 rfl) (kp_1938 44 rfl) u_1933 (kp_1938 47 rfl) (kp_1938 48 rfl)
                          have k_1954 : MTd I_1934 o := by exact MTd.step k_1910 (fr_1937 _ (by first | omega | (dsimp only; omega))) (fr_1937 _ (by first | omega | (dsimp only; omega))) u_1932 (by omega)
                          refine y_Model_next hok hw ra hz16 hz17 hz18 hz19 (by first | omega | (intro h; omega) | exact Or.inl rfl | exact Or.inr rfl) hR_1936 (fun I_1964 L_1965 hR_1966 fr_1967 kp_1968 u_1956 u_1957 u_1958 u_1959 u_1960 u_1961 u_1962 u_1963 => ⟨I_1964, L_1965, rfl, rfl, ?_⟩)
                          have hf_1969 : Fm (fun c => c = o ∨ (o + 30 ≤ c ∧ c < o + 34)) I0 I_1964 := hf_1939.call fr_1967 (fun c hc => by first | exact hc | (dsimp only at hc ⊢; omega) | omega)
                          have t_1970 : (I_1964 o 3).toInt = (I_1934 o 3).toInt := by rw [kp_1968 3 rfl]
                          have t_1971 : (I_1964 o 4).toInt = (I_1934 o 4).toInt := by rw [kp_1968 4 rfl]
                          have g_1972 : (0 : Int) ≤ (I_1964 o 6).toInt ∧ (I_1964 o 6).toInt ≤ 1600 := hR_1966.at0 ra 6 (by decide)
                          have g_1973 : (0 : Int) ≤ (I_1964 o 7).toInt ∧ (I_1964 o 7).toInt ≤ 1601 := hR_1966.at0 ra 7 (by decide)
                          have g_1974 : (0 : Int) ≤ (I_1964 o 8).toInt ∧ (I_1964 o 8).toInt ≤ 6 := hR_1966.at0 ra 8 (by decide)
                          have t_1975 : (I_1964 o 44).toInt = (I_1934 o 44).toInt := by rw [kp_1968 44 rfl]
                          have t_1976 : (I_1964 o 45).toInt = (I_1934 o 45).toInt := by rw [kp_1968 45 rfl]
                          have t_1977 : (I_1964 o 47).toInt = (I_1934 o 47).toInt := by rw [kp_1968 47 rfl]
                          have t_1978 : (I_1964 o 48).toInt = (I_1934 o 48).toInt := by rw [kp_1968 48 rfl]
                          have t_1979 : (I_1964 o 46).toInt = (I_1934 o 46).toInt := by rw [kp_1968 46 rfl]
                          have k_1980 : MTd I_1964 o := k_1954.fr (fr_1967 _ (by first | omega | (dsimp only; omega))) (fr_1967 _ (by first | omega | (dsimp only; omega))) (fr_1967 _ (by first | omega | (dsimp only; omega)))
                          have ms := u_1959 (by omega)
                          have k_1981 : EX 0 0 0 f0 0 I_1964 o := by exact EX.nx k_1953 (fr_1967 _ (by first | omega | (dsimp only; omega))) (fr_1967 _ (by first | omega | (dsimp only; omega))) (fr_1967 _ (by first | omega | (dsimp only; omega))) (fr_1967 _ (by first | omega | (dsimp only; omega))) (fr_1967 _ (by first | omega | (dsimp only; omega))) (kp_1968 3 rfl) (kp_1968 44 rfl) (kp_1968 45 rfl) (kp_1968 47 rfl) (kp_1968 48 rfl) (by omega) (by omega)
                          exact (hp _ _ _ hR_1966 hf_1969 (Or.inl rfl) (by first | omega | (intro h; omega) | exact Or.inl rfl | exact Or.inr rfl) (by first | omega | (intro h; omega) | exact Or.inl rfl | exact Or.inr rfl) (by first | omega | (intro h; omega) | exact Or.inl rfl | exact Or.inr rfl) (by first | omega | (intro h; omega) | exact Or.inl rfl | exact Or.inr rfl) (by first | omega | (intro h; omega) | exact Or.inl rfl | exact Or.inr rfl) (by first | (intro h; exfalso; omega) | exact fun _ => (False.elim (by omega)) | exact fun _ => k_1981) k_1980 u_1962 u_1963)
                    · have d_1982 := iNe c_1918
                      have i_1983 := u_1915 (by omega)
                      have i_1984 := u_1916 (by omega)
                      have g_1985 : (0 : Int) ≤ (I_1894 o 47).toInt ∧ (I_1894 o 47).toInt ≤ 7 := hR_1896.at0 ra 47 (by decide)
                      have l_1986 : (7 : Int32).toInt = 7 := rfl
                      refine ⟨fun c_1987 => ?_, fun c_1987 => ?_⟩
                      · have d_1988 := iNe c_1987
                        refine y_Model_isGood hok hw ra hR_1896 (fun r_1989 u_1990 u_1991 u_1992 => ⟨r_1989, I_1894, L_33, rfl, rfl, ?_⟩)
                        have b_1993 : 0 ≤ r_1989.toInt ∧ r_1989.toInt ≤ 1 := u_1990.rg
                        refine ⟨fun c_1994 => ?_, fun c_1994 => ?_⟩
                        · have d_1995 := iNe c_1994
                          have i_1996 := u_1991 (by omega)
                          refine y_Model_pile hok hw ra hz58 (by first | omega | (intro h; omega) | exact Or.inl rfl | exact Or.inr rfl) (by first | omega | (intro h; omega) | exact Or.inl rfl | exact Or.inr rfl) hR_1896 (fun I_2001 L_2002 hR_2003 fr_2004 kp_2005 u_1998 u_1999 u_2000 => ⟨I_2001, L_2002, rfl, rfl, ?_⟩)
                          have hf_2006 : Fm (fun c => c = o ∨ (o + 30 ≤ c ∧ c < o + 34)) I0 I_2001 := hf_1897.call fr_2004 (fun c hc => by first | exact hc | (dsimp only at hc ⊢; omega) | omega)
                          have t_2007 : (I_2001 o 3).toInt = (I_1894 o 3).toInt := by rw [kp_2005 3 rfl]
                          have t_2008 : (I_2001 o 4).toInt = (I_1894 o 4).toInt := by rw [kp_2005 4 rfl]
                          have t_2009 : (I_2001 o 6).toInt = (I_1894 o 6).toInt := by rw [kp_2005 6 rfl]
                          have t_2010 : (I_2001 o 7).toInt = (I_1894 o 7).toInt := by rw [kp_2005 7 rfl]
                          have t_2011 : (I_2001 o 8).toInt = (I_1894 o 8).toInt := by rw [kp_2005 8 rfl]
                          have t_2012 : (I_2001 o 9).toInt = (I_1894 o 9).toInt := by rw [kp_2005 9 rfl]
                          have t_2013 : (I_2001 o 44).toInt = (I_1894 o 44).toInt := by rw [kp_2005 44 rfl]
                          have t_2014 : (I_2001 o 45).toInt = (I_1894 o 45).toInt := by rw [kp_2005 45 rfl]
                          have t_2015 : (I_2001 o 47).toInt = (I_1894 o 47).toInt := by rw [kp_2005 47 rfl]
                          have g_2016 : (0 : Int) ≤ (I_2001 o 48).toInt ∧ (I_2001 o 48).toInt ≤ 80 := hR_2003.at0 ra 48 (by decide)
                          have t_2017 : (I_2001 o 46).toInt = (I_1894 o 46).toInt := by rw [kp_2005 46 rfl]
                          have k_2018 : MTd I_2001 o := k_1910.fr (fr_2004 _ (by first | omega | (dsimp only; omega))) (fr_2004 _ (by first | omega | (dsimp only; omega))) (fr_2004 _ (by first | omega | (dsimp only; omega)))
                          have k_2019 : MPo I_2001 o := k_1911.fr (kp_2005 8 rfl) (kp_2005 9 rfl)
                          have k_2020 : MTk I_2001 o := k_1912.fr (kp_2005 6 rfl) (kp_2005 7 rfl) (kp_2005 8 rfl)
                          have k_2021 : EX 0 1 1 f0 1 I_2001 o := by have z := EX.push k_1909 (v := 7) (s := 0) (dB := 1) (dO := 0) (wt' := 1) (by decide) (by decide) (by decide) (by omega) ⟨by decide, by decide⟩ ⟨fun h => absurd h (by decide), fun h => absurd h (by decide)⟩ (Or.inl rfl) (fr_2004 _ (by first | omega | (dsimp only; omega))) (fr_2004 _ (by first | omega | (dsimp only; omega))) (fr_2004 _ (by first | omega | (dsimp only; omega))) u_1998 u_1999 (kp_2005 3 rfl) (kp_2005 6 rfl) (kp_2005 44 rfl) (kp_2005 45 rfl) (kp_2005 47 rfl) u_2000; exact EX.chg (b' := 1) z rfl rfl rfl rfl rfl rfl rfl rfl rfl rfl (by omega) z.pl
                          have g_2022 : (0 : Int) ≤ (I_2001 o 47).toInt ∧ (I_2001 o 47).toInt ≤ 7 := hR_2003.at0 ra 47 (by decide)
                          have a_2023 : ((I_2001 o 47) + 1).toInt = (I_2001 o 47).toInt + (1 : Int32).toInt := tAdd (by omega) (by omega)
                          refine fun I_2024 e_2025 => ?_
                          have hR_2026 : RI R I_2024 := hR_2003.up0 (k := 47) ra (by decide) (Or.inr hz57) e_2025 (show (0 : Int) ≤ ((I_2001 o 47) + 1).toInt by omega) (show ((I_2001 o 47) + 1).toInt ≤ (7 : Int) by omega)
                          have hf_2027 : Fm (fun c => c = o ∨ (o + 30 ≤ c ∧ c < o + 34)) I0 I_2024 := hf_2006.set (by first | rfl | omega | (dsimp only; omega)) e_2025
                          have t_2028 : (I_2024 o 3).toInt = (I_2001 o 3).toInt := by rw [← e_2025, q_u_k (by decide)]
                          have t_2029 : (I_2024 o 4).toInt = (I_2001 o 4).toInt := by rw [← e_2025, q_u_k (by decide)]
                          have t_2030 : (I_2024 o 6).toInt = (I_2001 o 6).toInt := by rw [← e_2025, q_u_k (by decide)]
                          have t_2031 : (I_2024 o 7).toInt = (I_2001 o 7).toInt := by rw [← e_2025, q_u_k (by decide)]
                          have t_2032 : (I_2024 o 8).toInt = (I_2001 o 8).toInt := by rw [← e_2025, q_u_k (by decide)]
                          have t_2033 : (I_2024 o 9).toInt = (I_2001 o 9).toInt := by rw [← e_2025, q_u_k (by decide)]
                          have t_2034 : (I_2024 o 44).toInt = (I_2001 o 44).toInt := by rw [← e_2025, q_u_k (by decide)]
                          have t_2035 : (I_2024 o 45).toInt = (I_2001 o 45).toInt := by rw [← e_2025, q_u_k (by decide)]
                          have t_2036 : (I_2024 o 47).toInt = ((I_2001 o 47) + 1).toInt := by rw [← e_2025, q_u_at]
                          have t_2037 : (I_2024 o 48).toInt = (I_2001 o 48).toInt := by rw [← e_2025, q_u_k (by decide)]
                          have t_2038 : (I_2024 o 46).toInt = (I_2001 o 46).toInt := by rw [← e_2025, q_u_k (by decide)]
                          have k_2039 : MTd I_2024 o := k_2018.fr (by rw [← e_2025]; exact q_u_ne (by omega)) (by rw [← e_2025]; exact q_u_ne (by omega)) (by rw [← e_2025]; exact q_u_ne (by omega))
                          have k_2040 : MPo I_2024 o := k_2019.fr (by rw [← e_2025, q_u_k (by decide)]) (by rw [← e_2025, q_u_k (by decide)])
                          have k_2041 : MTk I_2024 o := k_2020.fr (by rw [← e_2025, q_u_k (by decide)]) (by rw [← e_2025, q_u_k (by decide)]) (by rw [← e_2025, q_u_k (by decide)])
                          have tk := k_2041.2 (by omega)
                          have k_2043 : EX 0 0 1 f0 1 I_2024 o := by exact EX.put47 k_2021 e_2025 (by omega)
                          refine y_Model_next hok hw ra hz16 hz17 hz18 hz19 (by first | omega | (intro h; omega) | exact Or.inl rfl | exact Or.inr rfl) hR_2026 (fun I_2053 L_2054 hR_2055 fr_2056 kp_2057 u_2045 u_2046 u_2047 u_2048 u_2049 u_2050 u_2051 u_2052 => ⟨I_2053, L_2054, rfl, rfl, ?_⟩)
                          have hf_2058 : Fm (fun c => c = o ∨ (o + 30 ≤ c ∧ c < o + 34)) I0 I_2053 := hf_2027.call fr_2056 (fun c hc => by first | exact hc | (dsimp only at hc ⊢; omega) | omega)
                          have t_2059 : (I_2053 o 3).toInt = (I_2024 o 3).toInt := by rw [kp_2057 3 rfl]
                          have t_2060 : (I_2053 o 4).toInt = (I_2024 o 4).toInt := by rw [kp_2057 4 rfl]
                          have g_2061 : (0 : Int) ≤ (I_2053 o 6).toInt ∧ (I_2053 o 6).toInt ≤ 1600 := hR_2055.at0 ra 6 (by decide)
                          have g_2062 : (0 : Int) ≤ (I_2053 o 7).toInt ∧ (I_2053 o 7).toInt ≤ 1601 := hR_2055.at0 ra 7 (by decide)
                          have g_2063 : (0 : Int) ≤ (I_2053 o 8).toInt ∧ (I_2053 o 8).toInt ≤ 6 := hR_2055.at0 ra 8 (by decide)
                          have t_2064 : (I_2053 o 44).toInt = (I_2024 o 44).toInt := by rw [kp_2057 44 rfl]
                          have t_2065 : (I_2053 o 45).toInt = (I_2024 o 45).toInt := by rw [kp_2057 45 rfl]
                          have t_2066 : (I_2053 o 47).toInt = (I_2024 o 47).toInt := by rw [kp_2057 47 rfl]
                          have t_2067 : (I_2053 o 48).toInt = (I_2024 o 48).toInt := by rw [kp_2057 48 rfl]
                          have t_2068 : (I_2053 o 46).toInt = (I_2024 o 46).toInt := by rw [kp_2057 46 rfl]
                          have k_2069 : MTd I_2053 o := k_2039.fr (fr_2056 _ (by first | omega | (dsimp only; omega))) (fr_2056 _ (by first | omega | (dsimp only; omega))) (fr_2056 _ (by first | omega | (dsimp only; omega)))
                          have ms := u_2048 (by omega)
                          have k_2070 : EX 0 0 0 f0 1 I_2053 o := by exact EX.nx k_2043 (fr_2056 _ (by first | omega | (dsimp only; omega))) (fr_2056 _ (by first | omega | (dsimp only; omega))) (fr_2056 _ (by first | omega | (dsimp only; omega))) (fr_2056 _ (by first | omega | (dsimp only; omega))) (fr_2056 _ (by first | omega | (dsimp only; omega))) (kp_2057 3 rfl) (kp_2057 44 rfl) (kp_2057 45 rfl) (kp_2057 47 rfl) (kp_2057 48 rfl) (by omega) (by omega)
                          exact (hp _ _ _ hR_2055 hf_2058 (Or.inr rfl) (by first | omega | (intro h; omega) | exact Or.inl rfl | exact Or.inr rfl) (by first | omega | (intro h; omega) | exact Or.inl rfl | exact Or.inr rfl) (by first | omega | (intro h; omega) | exact Or.inl rfl | exact Or.inr rfl) (by first | omega | (intro h; omega) | exact Or.inl rfl | exact Or.inr rfl) (by first | omega | (intro h; omega) | exact Or.inl rfl | exact Or.inr rfl) (by first | (intro h; exfalso; omega) | exact fun _ => k_2070 | exact fun _ => (False.elim (by omega))) k_2069 u_2051 u_2052)
                        · have d_2071 := iEq c_1994
                          have i_2072 := u_1992 (by omega)
                          exact (hp _ _ _ hR_1896 hf_1897 (Or.inr rfl) (by first | omega | (intro h; omega) | exact Or.inl rfl | exact Or.inr rfl) (by first | omega | (intro h; omega) | exact Or.inl rfl | exact Or.inr rfl) (by first | omega | (intro h; omega) | exact Or.inl rfl | exact Or.inr rfl) (by first | omega | (intro h; omega) | exact Or.inl rfl | exact Or.inr rfl) (by first | omega | (intro h; omega) | exact Or.inl rfl | exact Or.inr rfl) (by first | (intro h; exfalso; omega) | exact fun _ => k_1909 | exact fun _ => (False.elim (by omega))) k_1910 k_1911 k_1912)
                      · have d_2073 := iEq c_1987
                        refine y_Model_wrong hok hw ra hz14 hz15 hR_1896 (fun I_2077 L_2078 hR_2079 fr_2080 kp_2081 u_2075 u_2076 => ⟨I_2077, L_2078, rfl, rfl, ?_⟩)
                        have hf_2082 : Fm (fun c => c = o ∨ (o + 30 ≤ c ∧ c < o + 34)) I0 I_2077 := hf_1897.call fr_2080 (fun c hc => by first | exact hc | (dsimp only at hc ⊢; omega) | omega)
                        have t_2083 : (I_2077 o 3).toInt = (I_1894 o 3).toInt := by rw [kp_2081 3 rfl]
                        have g_2084 : (0 : Int) ≤ (I_2077 o 4).toInt ∧ (I_2077 o 4).toInt ≤ 5 := hR_2079.at0 ra 4 (by decide)
                        have t_2085 : (I_2077 o 6).toInt = (I_1894 o 6).toInt := by rw [kp_2081 6 rfl]
                        have t_2086 : (I_2077 o 7).toInt = (I_1894 o 7).toInt := by rw [kp_2081 7 rfl]
                        have t_2087 : (I_2077 o 8).toInt = (I_1894 o 8).toInt := by rw [kp_2081 8 rfl]
                        have t_2088 : (I_2077 o 9).toInt = (I_1894 o 9).toInt := by rw [kp_2081 9 rfl]
                        have t_2089 : (I_2077 o 44).toInt = (I_1894 o 44).toInt := by rw [kp_2081 44 rfl]
                        have t_2090 : (I_2077 o 45).toInt = (I_1894 o 45).toInt := by rw [kp_2081 45 rfl]
                        have t_2091 : (I_2077 o 47).toInt = (I_1894 o 47).toInt := by rw [kp_2081 47 rfl]
                        have t_2092 : (I_2077 o 48).toInt = (I_1894 o 48).toInt := by rw [kp_2081 48 rfl]
                        have t_2093 : (I_2077 o 46).toInt = (I_1894 o 46).toInt := by rw [kp_2081 46 rfl]
                        have k_2094 : EX 0 0 0 f0 1 I_2077 o := k_1909.fr (fr_2080 _ (by first | omega | (dsimp only; omega))) (fr_2080 _ (by first | omega | (dsimp only; omega))) (fr_2080 _ (by first | omega | (dsimp only; omega))) (fr_2080 _ (by first | omega | (dsimp only; omega))) (fr_2080 _ (by first | omega | (dsimp only; omega))) (kp_2081 3 rfl) (kp_2081 6 rfl) (kp_2081 44 rfl) (kp_2081 45 rfl) (kp_2081 47 rfl) (kp_2081 48 rfl)
                        have k_2095 : MTd I_2077 o := k_1910.fr (fr_2080 _ (by first | omega | (dsimp only; omega))) (fr_2080 _ (by first | omega | (dsimp only; omega))) (fr_2080 _ (by first | omega | (dsimp only; omega)))
                        have k_2096 : MPo I_2077 o := k_1911.fr (kp_2081 8 rfl) (kp_2081 9 rfl)
                        have k_2097 : MTk I_2077 o := k_1912.fr (kp_2081 6 rfl) (kp_2081 7 rfl) (kp_2081 8 rfl)
                        refine y_Model_isGood hok hw ra hR_2079 (fun r_2098 u_2099 u_2100 u_2101 => ⟨r_2098, I_2077, L_2078, rfl, rfl, ?_⟩)
                        have b_2102 : 0 ≤ r_2098.toInt ∧ r_2098.toInt ≤ 1 := u_2099.rg
                        refine ⟨fun c_2103 => ?_, fun c_2103 => ?_⟩
                        · have d_2104 := iNe c_2103
                          have i_2105 := u_2100 (by omega)
                          refine y_Model_pile hok hw ra hz58 (by first | omega | (intro h; omega) | exact Or.inl rfl | exact Or.inr rfl) (by first | omega | (intro h; omega) | exact Or.inl rfl | exact Or.inr rfl) hR_2079 (fun I_2110 L_2111 hR_2112 fr_2113 kp_2114 u_2107 u_2108 u_2109 => ⟨I_2110, L_2111, rfl, rfl, ?_⟩)
                          have hf_2115 : Fm (fun c => c = o ∨ (o + 30 ≤ c ∧ c < o + 34)) I0 I_2110 := hf_2082.call fr_2113 (fun c hc => by first | exact hc | (dsimp only at hc ⊢; omega) | omega)
                          have t_2116 : (I_2110 o 3).toInt = (I_2077 o 3).toInt := by rw [kp_2114 3 rfl]
                          have t_2117 : (I_2110 o 4).toInt = (I_2077 o 4).toInt := by rw [kp_2114 4 rfl]
                          have t_2118 : (I_2110 o 6).toInt = (I_2077 o 6).toInt := by rw [kp_2114 6 rfl]
                          have t_2119 : (I_2110 o 7).toInt = (I_2077 o 7).toInt := by rw [kp_2114 7 rfl]
                          have t_2120 : (I_2110 o 8).toInt = (I_2077 o 8).toInt := by rw [kp_2114 8 rfl]
                          have t_2121 : (I_2110 o 9).toInt = (I_2077 o 9).toInt := by rw [kp_2114 9 rfl]
                          have t_2122 : (I_2110 o 44).toInt = (I_2077 o 44).toInt := by rw [kp_2114 44 rfl]
                          have t_2123 : (I_2110 o 45).toInt = (I_2077 o 45).toInt := by rw [kp_2114 45 rfl]
                          have t_2124 : (I_2110 o 47).toInt = (I_2077 o 47).toInt := by rw [kp_2114 47 rfl]
                          have g_2125 : (0 : Int) ≤ (I_2110 o 48).toInt ∧ (I_2110 o 48).toInt ≤ 80 := hR_2112.at0 ra 48 (by decide)
                          have t_2126 : (I_2110 o 46).toInt = (I_2077 o 46).toInt := by rw [kp_2114 46 rfl]
                          have k_2127 : MTd I_2110 o := k_2095.fr (fr_2113 _ (by first | omega | (dsimp only; omega))) (fr_2113 _ (by first | omega | (dsimp only; omega))) (fr_2113 _ (by first | omega | (dsimp only; omega)))
                          have k_2128 : MPo I_2110 o := k_2096.fr (kp_2114 8 rfl) (kp_2114 9 rfl)
                          have k_2129 : MTk I_2110 o := k_2097.fr (kp_2114 6 rfl) (kp_2114 7 rfl) (kp_2114 8 rfl)
                          have k_2130 : EX 0 1 1 f0 1 I_2110 o := by have z := EX.push k_2094 (v := 7) (s := 0) (dB := 1) (dO := 0) (wt' := 1) (by decide) (by decide) (by decide) (by omega) ⟨by decide, by decide⟩ ⟨fun h => absurd h (by decide), fun h => absurd h (by decide)⟩ (Or.inl rfl) (fr_2113 _ (by first | omega | (dsimp only; omega))) (fr_2113 _ (by first | omega | (dsimp only; omega))) (fr_2113 _ (by first | omega | (dsimp only; omega))) u_2107 u_2108 (kp_2114 3 rfl) (kp_2114 6 rfl) (kp_2114 44 rfl) (kp_2114 45 rfl) (kp_2114 47 rfl) u_2109; exact EX.chg (b' := 1) z rfl rfl rfl rfl rfl rfl rfl rfl rfl rfl (by omega) z.pl
                          have g_2131 : (0 : Int) ≤ (I_2110 o 47).toInt ∧ (I_2110 o 47).toInt ≤ 7 := hR_2112.at0 ra 47 (by decide)
                          have a_2132 : ((I_2110 o 47) + 1).toInt = (I_2110 o 47).toInt + (1 : Int32).toInt := tAdd (by omega) (by omega)
                          refine fun I_2133 e_2134 => ?_
                          have hR_2135 : RI R I_2133 := hR_2112.up0 (k := 47) ra (by decide) (Or.inr hz57) e_2134 (show (0 : Int) ≤ ((I_2110 o 47) + 1).toInt by omega) (show ((I_2110 o 47) + 1).toInt ≤ (7 : Int) by omega)
                          have hf_2136 : Fm (fun c => c = o ∨ (o + 30 ≤ c ∧ c < o + 34)) I0 I_2133 := hf_2115.set (by first | rfl | omega | (dsimp only; omega)) e_2134
                          have t_2137 : (I_2133 o 3).toInt = (I_2110 o 3).toInt := by rw [← e_2134, q_u_k (by decide)]
                          have t_2138 : (I_2133 o 4).toInt = (I_2110 o 4).toInt := by rw [← e_2134, q_u_k (by decide)]
                          have t_2139 : (I_2133 o 6).toInt = (I_2110 o 6).toInt := by rw [← e_2134, q_u_k (by decide)]
                          have t_2140 : (I_2133 o 7).toInt = (I_2110 o 7).toInt := by rw [← e_2134, q_u_k (by decide)]
                          have t_2141 : (I_2133 o 8).toInt = (I_2110 o 8).toInt := by rw [← e_2134, q_u_k (by decide)]
                          have t_2142 : (I_2133 o 9).toInt = (I_2110 o 9).toInt := by rw [← e_2134, q_u_k (by decide)]
                          have t_2143 : (I_2133 o 44).toInt = (I_2110 o 44).toInt := by rw [← e_2134, q_u_k (by decide)]
                          have t_2144 : (I_2133 o 45).toInt = (I_2110 o 45).toInt := by rw [← e_2134, q_u_k (by decide)]
                          have t_2145 : (I_2133 o 47).toInt = ((I_2110 o 47) + 1).toInt := by rw [← e_2134, q_u_at]
                          have t_2146 : (I_2133 o 48).toInt = (I_2110 o 48).toInt := by rw [← e_2134, q_u_k (by decide)]
                          have t_2147 : (I_2133 o 46).toInt = (I_2110 o 46).toInt := by rw [← e_2134, q_u_k (by decide)]
                          have k_2148 : MTd I_2133 o := k_2127.fr (by rw [← e_2134]; exact q_u_ne (by omega)) (by rw [← e_2134]; exact q_u_ne (by omega)) (by rw [← e_2134]; exact q_u_ne (by omega))
                          have k_2149 : MPo I_2133 o := k_2128.fr (by rw [← e_2134, q_u_k (by decide)]) (by rw [← e_2134, q_u_k (by decide)])
                          have k_2150 : MTk I_2133 o := k_2129.fr (by rw [← e_2134, q_u_k (by decide)]) (by rw [← e_2134, q_u_k (by decide)]) (by rw [← e_2134, q_u_k (by decide)])
                          have tk := k_2150.2 (by omega)
                          have k_2152 : EX 0 0 1 f0 1 I_2133 o := by exact EX.put47 k_2130 e_2134 (by omega)
                          refine y_Model_next hok hw ra hz16 hz17 hz18 hz19 (by first | omega | (intro h; omega) | exact Or.inl rfl | exact Or.inr rfl) hR_2135 (fun I_2162 L_2163 hR_2164 fr_2165 kp_2166 u_2154 u_2155 u_2156 u_2157 u_2158 u_2159 u_2160 u_2161 => ⟨I_2162, L_2163, rfl, rfl, ?_⟩)
                          have hf_2167 : Fm (fun c => c = o ∨ (o + 30 ≤ c ∧ c < o + 34)) I0 I_2162 := hf_2136.call fr_2165 (fun c hc => by first | exact hc | (dsimp only at hc ⊢; omega) | omega)
                          have t_2168 : (I_2162 o 3).toInt = (I_2133 o 3).toInt := by rw [kp_2166 3 rfl]
                          have t_2169 : (I_2162 o 4).toInt = (I_2133 o 4).toInt := by rw [kp_2166 4 rfl]
                          have g_2170 : (0 : Int) ≤ (I_2162 o 6).toInt ∧ (I_2162 o 6).toInt ≤ 1600 := hR_2164.at0 ra 6 (by decide)
                          have g_2171 : (0 : Int) ≤ (I_2162 o 7).toInt ∧ (I_2162 o 7).toInt ≤ 1601 := hR_2164.at0 ra 7 (by decide)
                          have g_2172 : (0 : Int) ≤ (I_2162 o 8).toInt ∧ (I_2162 o 8).toInt ≤ 6 := hR_2164.at0 ra 8 (by decide)
                          have t_2173 : (I_2162 o 44).toInt = (I_2133 o 44).toInt := by rw [kp_2166 44 rfl]
                          have t_2174 : (I_2162 o 45).toInt = (I_2133 o 45).toInt := by rw [kp_2166 45 rfl]
                          have t_2175 : (I_2162 o 47).toInt = (I_2133 o 47).toInt := by rw [kp_2166 47 rfl]
                          have t_2176 : (I_2162 o 48).toInt = (I_2133 o 48).toInt := by rw [kp_2166 48 rfl]
                          have t_2177 : (I_2162 o 46).toInt = (I_2133 o 46).toInt := by rw [kp_2166 46 rfl]
                          have k_2178 : MTd I_2162 o := k_2148.fr (fr_2165 _ (by first | omega | (dsimp only; omega))) (fr_2165 _ (by first | omega | (dsimp only; omega))) (fr_2165 _ (by first | omega | (dsimp only; omega)))
                          have ms := u_2157 (by omega)
                          have k_2179 : EX 0 0 0 f0 1 I_2162 o := by exact EX.nx k_2152 (fr_2165 _ (by first | omega | (dsimp only; omega))) (fr_2165 _ (by first | omega | (dsimp only; omega))) (fr_2165 _ (by first | omega | (dsimp only; omega))) (fr_2165 _ (by first | omega | (dsimp only; omega))) (fr_2165 _ (by first | omega | (dsimp only; omega))) (kp_2166 3 rfl) (kp_2166 44 rfl) (kp_2166 45 rfl) (kp_2166 47 rfl) (kp_2166 48 rfl) (by omega) (by omega)
                          exact (hp _ _ _ hR_2164 hf_2167 (Or.inr rfl) (by first | omega | (intro h; omega) | exact Or.inl rfl | exact Or.inr rfl) (by first | omega | (intro h; omega) | exact Or.inl rfl | exact Or.inr rfl) (by first | omega | (intro h; omega) | exact Or.inl rfl | exact Or.inr rfl) (by first | omega | (intro h; omega) | exact Or.inl rfl | exact Or.inr rfl) (by first | omega | (intro h; omega) | exact Or.inl rfl | exact Or.inr rfl) (by first | (intro h; exfalso; omega) | exact fun _ => k_2179 | exact fun _ => (False.elim (by omega))) k_2178 u_2160 u_2161)
                        · have d_2180 := iEq c_2103
                          have i_2181 := u_2101 (by omega)
                          exact (hp _ _ _ hR_2079 hf_2082 (Or.inr rfl) (by first | omega | (intro h; omega) | exact Or.inl rfl | exact Or.inr rfl) (by first | omega | (intro h; omega) | exact Or.inl rfl | exact Or.inr rfl) (by first | omega | (intro h; omega) | exact Or.inl rfl | exact Or.inr rfl) (by first | omega | (intro h; omega) | exact Or.inl rfl | exact Or.inr rfl) (by first | omega | (intro h; omega) | exact Or.inl rfl | exact Or.inr rfl) (by first | (intro h; exfalso; omega) | exact fun _ => k_2094 | exact fun _ => (False.elim (by omega))) k_2095 k_2096 k_2097)
                  · have d_2182 := iEq c_1889
                    have i_2183 := u_1887 (by omega)
                    exact (hp _ _ _ hR_34 hf_37 (Or.inr rfl) (by first | omega | (intro h; omega) | exact Or.inl rfl | exact Or.inr rfl) (by first | omega | (intro h; omega) | exact Or.inl rfl | exact Or.inr rfl) (by first | omega | (intro h; omega) | exact Or.inl rfl | exact Or.inr rfl) (by first | omega | (intro h; omega) | exact Or.inl rfl | exact Or.inr rfl) (by first | omega | (intro h; omega) | exact Or.inl rfl | exact Or.inr rfl) (by first | (intro h; exfalso; omega) | exact fun _ => k_48 | exact fun _ => (False.elim (by omega))) k_49 k_50 k_51)
                · have d_2184 := iEq c_1882
                  unfold fModel_unit_140
                  refine y_Model_wrong hok hw ra hz14 hz15 hR_34 (fun I_2188 L_2189 hR_2190 fr_2191 kp_2192 u_2186 u_2187 => ⟨I_2188, L_2189, rfl, rfl, ?_⟩)
                  have hf_2193 : Fm (fun c => c = o ∨ (o + 30 ≤ c ∧ c < o + 34)) I0 I_2188 := hf_37.call fr_2191 (fun c hc => by first | exact hc | (dsimp only at hc ⊢; omega) | omega)
                  have t_2194 : (I_2188 o 3).toInt = (I_32 o 3).toInt := by rw [kp_2192 3 rfl]
                  have g_2195 : (0 : Int) ≤ (I_2188 o 4).toInt ∧ (I_2188 o 4).toInt ≤ 5 := hR_2190.at0 ra 4 (by decide)
                  have t_2196 : (I_2188 o 6).toInt = (I_32 o 6).toInt := by rw [kp_2192 6 rfl]
                  have t_2197 : (I_2188 o 7).toInt = (I_32 o 7).toInt := by rw [kp_2192 7 rfl]
                  have t_2198 : (I_2188 o 8).toInt = (I_32 o 8).toInt := by rw [kp_2192 8 rfl]
                  have t_2199 : (I_2188 o 9).toInt = (I_32 o 9).toInt := by rw [kp_2192 9 rfl]
                  have t_2200 : (I_2188 o 44).toInt = (I_32 o 44).toInt := by rw [kp_2192 44 rfl]
                  have t_2201 : (I_2188 o 45).toInt = (I_32 o 45).toInt := by rw [kp_2192 45 rfl]
                  have t_2202 : (I_2188 o 47).toInt = (I_32 o 47).toInt := by rw [kp_2192 47 rfl]
                  have t_2203 : (I_2188 o 48).toInt = (I_32 o 48).toInt := by rw [kp_2192 48 rfl]
                  have t_2204 : (I_2188 o 46).toInt = (I_32 o 46).toInt := by rw [kp_2192 46 rfl]
                  have k_2205 : EX 0 0 0 f0 1 I_2188 o := k_48.fr (fr_2191 _ (by first | omega | (dsimp only; omega))) (fr_2191 _ (by first | omega | (dsimp only; omega))) (fr_2191 _ (by first | omega | (dsimp only; omega))) (fr_2191 _ (by first | omega | (dsimp only; omega))) (fr_2191 _ (by first | omega | (dsimp only; omega))) (kp_2192 3 rfl) (kp_2192 6 rfl) (kp_2192 44 rfl) (kp_2192 45 rfl) (kp_2192 47 rfl) (kp_2192 48 rfl)
                  have k_2206 : MTd I_2188 o := k_49.fr (fr_2191 _ (by first | omega | (dsimp only; omega))) (fr_2191 _ (by first | omega | (dsimp only; omega))) (fr_2191 _ (by first | omega | (dsimp only; omega)))
                  have k_2207 : MPo I_2188 o := k_50.fr (kp_2192 8 rfl) (kp_2192 9 rfl)
                  have k_2208 : MTk I_2188 o := k_51.fr (kp_2192 6 rfl) (kp_2192 7 rfl) (kp_2192 8 rfl)
                  refine y_Model_isGood hok hw ra hR_2190 (fun r_2209 u_2210 u_2211 u_2212 => ⟨r_2209, I_2188, L_2189, rfl, rfl, ?_⟩)
                  have b_2213 : 0 ≤ r_2209.toInt ∧ r_2209.toInt ≤ 1 := u_2210.rg
                  refine ⟨fun c_2214 => ?_, fun c_2214 => ?_⟩
                  · have d_2215 := iNe c_2214
                    have i_2216 := u_2211 (by omega)
                    have g_2217 : (0 : Int) ≤ (I_2188 o 46).toInt ∧ (I_2188 o 46).toInt ≤ 100 := hR_2190.at0 ra 46 (by decide)
                    have a_2218 : ((I_2188 o 46) + 1).toInt = (I_2188 o 46).toInt + (1 : Int32).toInt := tAdd (by omega) (by omega)
                    refine fun I_2219 e_2220 => ?_
                    have hR_2221 : RI R I_2219 := hR_2190.up0 (k := 46) ra (by decide) (Or.inr hz56) e_2220 (show (0 : Int) ≤ ((I_2188 o 46) + 1).toInt by omega) (show ((I_2188 o 46) + 1).toInt ≤ (100 : Int) by omega)
                    have hf_2222 : Fm (fun c => c = o ∨ (o + 30 ≤ c ∧ c < o + 34)) I0 I_2219 := hf_2193.set (by first | rfl | omega | (dsimp only; omega)) e_2220
                    have t_2223 : (I_2219 o 3).toInt = (I_2188 o 3).toInt := by rw [← e_2220, q_u_k (by decide)]
                    have t_2224 : (I_2219 o 4).toInt = (I_2188 o 4).toInt := by rw [← e_2220, q_u_k (by decide)]
                    have t_2225 : (I_2219 o 6).toInt = (I_2188 o 6).toInt := by rw [← e_2220, q_u_k (by decide)]
                    have t_2226 : (I_2219 o 7).toInt = (I_2188 o 7).toInt := by rw [← e_2220, q_u_k (by decide)]
                    have t_2227 : (I_2219 o 8).toInt = (I_2188 o 8).toInt := by rw [← e_2220, q_u_k (by decide)]
                    have t_2228 : (I_2219 o 9).toInt = (I_2188 o 9).toInt := by rw [← e_2220, q_u_k (by decide)]
                    have t_2229 : (I_2219 o 44).toInt = (I_2188 o 44).toInt := by rw [← e_2220, q_u_k (by decide)]
                    have t_2230 : (I_2219 o 45).toInt = (I_2188 o 45).toInt := by rw [← e_2220, q_u_k (by decide)]
                    have t_2231 : (I_2219 o 47).toInt = (I_2188 o 47).toInt := by rw [← e_2220, q_u_k (by decide)]
                    have t_2232 : (I_2219 o 48).toInt = (I_2188 o 48).toInt := by rw [← e_2220, q_u_k (by decide)]
                    have t_2233 : (I_2219 o 46).toInt = ((I_2188 o 46) + 1).toInt := by rw [← e_2220, q_u_at]
                    have k_2234 : EX 0 0 0 f0 1 I_2219 o := k_2205.fr (by rw [← e_2220]; exact q_u_ne (by omega)) (by rw [← e_2220]; exact q_u_ne (by omega)) (by rw [← e_2220]; exact q_u_ne (by omega)) (by rw [← e_2220]; exact q_u_ne (by omega)) (by rw [← e_2220]; exact q_u_ne (by omega)) (by rw [← e_2220, q_u_k (by decide)]) (by rw [← e_2220, q_u_k (by decide)]) (by rw [← e_2220, q_u_k (by decide)]) (by rw [← e_2220, q_u_k (by decide)]) (by rw [← e_2220, q_u_k (by decide)]) (by rw [← e_2220, q_u_k (by decide)])
                    have k_2235 : MTd I_2219 o := k_2206.fr (by rw [← e_2220]; exact q_u_ne (by omega)) (by rw [← e_2220]; exact q_u_ne (by omega)) (by rw [← e_2220]; exact q_u_ne (by omega))
                    have k_2236 : MPo I_2219 o := k_2207.fr (by rw [← e_2220, q_u_k (by decide)]) (by rw [← e_2220, q_u_k (by decide)])
                    have k_2237 : MTk I_2219 o := k_2208.fr (by rw [← e_2220, q_u_k (by decide)]) (by rw [← e_2220, q_u_k (by decide)]) (by rw [← e_2220, q_u_k (by decide)])
                    refine y_Model_is hok hw ra hR_2221 (fun r_2238 u_2239 u_2240 u_2241 => ⟨r_2238, I_2219, L_2189, rfl, rfl, ?_⟩)
                    have b_2242 : 0 ≤ r_2238.toInt ∧ r_2238.toInt ≤ 1 := u_2239.rg
                    refine ⟨fun c_2243 => ?_, fun c_2243 => ?_⟩
                    · have d_2244 := iEq c_2243
                      have cd := k_2234.cod
                      have tk := k_2237.2 (by omega)
                      refine ⟨fun c_2245 => ?_, fun c_2245 => ?_⟩
                      · have d_2246 := iNe c_2245
                        have i_2247 := u_29 (by omega)
                        have i_2248 := u_30 (by omega)
                        exfalso; omega
                      · have d_2249 := iEq c_2245
                        unfold fModel_unit_228
                        have l_2250 : (78 : Int32).toInt = 78 := rfl
                        refine ⟨fun c_2251 => ?_, fun c_2251 => ?_⟩
                        · have d_2252 := iNe c_2251
                          have i_2253 := u_29 (by omega)
                          have i_2254 := u_30 (by omega)
                          exfalso; omega
                        · have d_2255 := iEq c_2251
                          refine y_Model_step hok hw ra hz55 (by first | omega | (intro h; omega) | exact Or.inl rfl | exact Or.inr rfl) (by first | omega | (intro h; omega) | exact Or.inl rfl | exact Or.inr rfl) hR_2221 (fun I_2259 L_2260 hR_2261 fr_2262 kp_2263 u_2257 u_2258 => ⟨I_2259, L_2260, rfl, rfl, ?_⟩)
                          have hf_2264 : Fm (fun c => c = o ∨ (o + 30 ≤ c ∧ c < o + 34)) I0 I_2259 := hf_2222.call fr_2262 (fun c hc => by first | exact hc | (dsimp only at hc ⊢; omega) | omega)
                          have t_2265 : (I_2259 o 3).toInt = (I_2219 o 3).toInt := by rw [kp_2263 3 rfl]
                          have t_2266 : (I_2259 o 4).toInt = (I_2219 o 4).toInt := by rw [kp_2263 4 rfl]
                          have t_2267 : (I_2259 o 6).toInt = (I_2219 o 6).toInt := by rw [kp_2263 6 rfl]
                          have t_2268 : (I_2259 o 7).toInt = (I_2219 o 7).toInt := by rw [kp_2263 7 rfl]
                          have t_2269 : (I_2259 o 8).toInt = (I_2219 o 8).toInt := by rw [kp_2263 8 rfl]
                          have t_2270 : (I_2259 o 9).toInt = (I_2219 o 9).toInt := by rw [kp_2263 9 rfl]
                          have t_2271 : (I_2259 o 44).toInt = (I_2219 o 44).toInt := by rw [kp_2263 44 rfl]
                          have g_2272 : (0 : Int) ≤ (I_2259 o 45).toInt ∧ (I_2259 o 45).toInt ≤ 700 := hR_2261.at0 ra 45 (by decide)
                          have t_2273 : (I_2259 o 47).toInt = (I_2219 o 47).toInt := by rw [kp_2263 47 rfl]
                          have t_2274 : (I_2259 o 48).toInt = (I_2219 o 48).toInt := by rw [kp_2263 48 rfl]
                          have t_2275 : (I_2259 o 46).toInt = (I_2219 o 46).toInt := by rw [kp_2263 46 rfl]
                          have k_2276 : MPo I_2259 o := k_2236.fr (kp_2263 8 rfl) (kp_2263 9 rfl)
                          have k_2277 : MTk I_2259 o := k_2237.fr (kp_2263 6 rfl) (kp_2263 7 rfl) (kp_2263 8 rfl)
                          have tk := k_2277.2 (by omega)
                          have k_2278 : EX 0 0 1 f0 0 I_2259 o := by exact EX.step1 k_2234 (by first | exact u_29 (by omega) | (unfold isT; decide)) (by omega) (fr_2262 _ (by first | omega | (dsimp only; omega))) (fr_2262 _ (by first | omega | (dsimp only; omega))) u_2257 (fr_2262 _ (by first | omega | (dsimp only; omega))) (fr_2262 _ (by first | omega | (dsimp only; omega))) (kp_2263 3 rfl) (kp_2263 6 rfl) (kp_2263 44 rfl) u_2258 (kp_2263 47 rfl) (kp_2263 48 rfl)
                          have k_2279 : MTd I_2259 o := by exact MTd.step k_2235 (fr_2262 _ (by first | omega | (dsimp only; omega))) (fr_2262 _ (by first | omega | (dsimp only; omega))) u_2257 (by omega)
                          refine y_Model_next hok hw ra hz16 hz17 hz18 hz19 (by first | omega | (intro h; omega) | exact Or.inl rfl | exact Or.inr rfl) hR_2261 (fun I_2289 L_2290 hR_2291 fr_2292 kp_2293 u_2281 u_2282 u_2283 u_2284 u_2285 u_2286 u_2287 u_2288 => ⟨I_2289, L_2290, rfl, rfl, ?_⟩)
                          have hf_2294 : Fm (fun c => c = o ∨ (o + 30 ≤ c ∧ c < o + 34)) I0 I_2289 := hf_2264.call fr_2292 (fun c hc => by first | exact hc | (dsimp only at hc ⊢; omega) | omega)
                          have t_2295 : (I_2289 o 3).toInt = (I_2259 o 3).toInt := by rw [kp_2293 3 rfl]
                          have t_2296 : (I_2289 o 4).toInt = (I_2259 o 4).toInt := by rw [kp_2293 4 rfl]
                          have g_2297 : (0 : Int) ≤ (I_2289 o 6).toInt ∧ (I_2289 o 6).toInt ≤ 1600 := hR_2291.at0 ra 6 (by decide)
                          have g_2298 : (0 : Int) ≤ (I_2289 o 7).toInt ∧ (I_2289 o 7).toInt ≤ 1601 := hR_2291.at0 ra 7 (by decide)
                          have g_2299 : (0 : Int) ≤ (I_2289 o 8).toInt ∧ (I_2289 o 8).toInt ≤ 6 := hR_2291.at0 ra 8 (by decide)
                          have t_2300 : (I_2289 o 44).toInt = (I_2259 o 44).toInt := by rw [kp_2293 44 rfl]
                          have t_2301 : (I_2289 o 45).toInt = (I_2259 o 45).toInt := by rw [kp_2293 45 rfl]
                          have t_2302 : (I_2289 o 47).toInt = (I_2259 o 47).toInt := by rw [kp_2293 47 rfl]
                          have t_2303 : (I_2289 o 48).toInt = (I_2259 o 48).toInt := by rw [kp_2293 48 rfl]
                          have t_2304 : (I_2289 o 46).toInt = (I_2259 o 46).toInt := by rw [kp_2293 46 rfl]
                          have k_2305 : MTd I_2289 o := k_2279.fr (fr_2292 _ (by first | omega | (dsimp only; omega))) (fr_2292 _ (by first | omega | (dsimp only; omega))) (fr_2292 _ (by first | omega | (dsimp only; omega)))
                          have ms := u_2284 (by omega)
                          have k_2306 : EX 0 0 0 f0 0 I_2289 o := by exact EX.nx k_2278 (fr_2292 _ (by first | omega | (dsimp only; omega))) (fr_2292 _ (by first | omega | (dsimp only; omega))) (fr_2292 _ (by first | omega | (dsimp only; omega))) (fr_2292 _ (by first | omega | (dsimp only; omega))) (fr_2292 _ (by first | omega | (dsimp only; omega))) (kp_2293 3 rfl) (kp_2293 44 rfl) (kp_2293 45 rfl) (kp_2293 47 rfl) (kp_2293 48 rfl) (by omega) (by omega)
                          exact (hp _ _ _ hR_2291 hf_2294 (Or.inl rfl) (by first | omega | (intro h; omega) | exact Or.inl rfl | exact Or.inr rfl) (by first | omega | (intro h; omega) | exact Or.inl rfl | exact Or.inr rfl) (by first | omega | (intro h; omega) | exact Or.inl rfl | exact Or.inr rfl) (by first | omega | (intro h; omega) | exact Or.inl rfl | exact Or.inr rfl) (by first | omega | (intro h; omega) | exact Or.inl rfl | exact Or.inr rfl) (by first | (intro h; exfalso; omega) | exact fun _ => (False.elim (by omega)) | exact fun _ => k_2306) k_2305 u_2287 u_2288)
                    · have d_2307 := iNe c_2243
                      have i_2308 := u_2240 (by omega)
                      have i_2309 := u_2241 (by omega)
                      have g_2310 : (0 : Int) ≤ (I_2219 o 47).toInt ∧ (I_2219 o 47).toInt ≤ 7 := hR_2221.at0 ra 47 (by decide)
                      have l_2311 : (7 : Int32).toInt = 7 := rfl
                      refine ⟨fun c_2312 => ?_, fun c_2312 => ?_⟩
                      · have d_2313 := iNe c_2312
                        refine y_Model_isGood hok hw ra hR_2221 (fun r_2314 u_2315 u_2316 u_2317 => ⟨r_2314, I_2219, L_2189, rfl, rfl, ?_⟩)
                        have b_2318 : 0 ≤ r_2314.toInt ∧ r_2314.toInt ≤ 1 := u_2315.rg
                        refine ⟨fun c_2319 => ?_, fun c_2319 => ?_⟩
                        · have d_2320 := iNe c_2319
                          have i_2321 := u_2316 (by omega)
                          refine y_Model_pile hok hw ra hz58 (by first | omega | (intro h; omega) | exact Or.inl rfl | exact Or.inr rfl) (by first | omega | (intro h; omega) | exact Or.inl rfl | exact Or.inr rfl) hR_2221 (fun I_2326 L_2327 hR_2328 fr_2329 kp_2330 u_2323 u_2324 u_2325 => ⟨I_2326, L_2327, rfl, rfl, ?_⟩)
                          have hf_2331 : Fm (fun c => c = o ∨ (o + 30 ≤ c ∧ c < o + 34)) I0 I_2326 := hf_2222.call fr_2329 (fun c hc => by first | exact hc | (dsimp only at hc ⊢; omega) | omega)
                          have t_2332 : (I_2326 o 3).toInt = (I_2219 o 3).toInt := by rw [kp_2330 3 rfl]
                          have t_2333 : (I_2326 o 4).toInt = (I_2219 o 4).toInt := by rw [kp_2330 4 rfl]
                          have t_2334 : (I_2326 o 6).toInt = (I_2219 o 6).toInt := by rw [kp_2330 6 rfl]
                          have t_2335 : (I_2326 o 7).toInt = (I_2219 o 7).toInt := by rw [kp_2330 7 rfl]
                          have t_2336 : (I_2326 o 8).toInt = (I_2219 o 8).toInt := by rw [kp_2330 8 rfl]
                          have t_2337 : (I_2326 o 9).toInt = (I_2219 o 9).toInt := by rw [kp_2330 9 rfl]
                          have t_2338 : (I_2326 o 44).toInt = (I_2219 o 44).toInt := by rw [kp_2330 44 rfl]
                          have t_2339 : (I_2326 o 45).toInt = (I_2219 o 45).toInt := by rw [kp_2330 45 rfl]
                          have t_2340 : (I_2326 o 47).toInt = (I_2219 o 47).toInt := by rw [kp_2330 47 rfl]
                          have g_2341 : (0 : Int) ≤ (I_2326 o 48).toInt ∧ (I_2326 o 48).toInt ≤ 80 := hR_2328.at0 ra 48 (by decide)
                          have t_2342 : (I_2326 o 46).toInt = (I_2219 o 46).toInt := by rw [kp_2330 46 rfl]
                          have k_2343 : MTd I_2326 o := k_2235.fr (fr_2329 _ (by first | omega | (dsimp only; omega))) (fr_2329 _ (by first | omega | (dsimp only; omega))) (fr_2329 _ (by first | omega | (dsimp only; omega)))
                          have k_2344 : MPo I_2326 o := k_2236.fr (kp_2330 8 rfl) (kp_2330 9 rfl)
                          have k_2345 : MTk I_2326 o := k_2237.fr (kp_2330 6 rfl) (kp_2330 7 rfl) (kp_2330 8 rfl)
                          have k_2346 : EX 0 1 1 f0 1 I_2326 o := by have z := EX.push k_2234 (v := 7) (s := 0) (dB := 1) (dO := 0) (wt' := 1) (by decide) (by decide) (by decide) (by omega) ⟨by decide, by decide⟩ ⟨fun h => absurd h (by decide), fun h => absurd h (by decide)⟩ (Or.inl rfl) (fr_2329 _ (by first | omega | (dsimp only; omega))) (fr_2329 _ (by first | omega | (dsimp only; omega))) (fr_2329 _ (by first | omega | (dsimp only; omega))) u_2323 u_2324 (kp_2330 3 rfl) (kp_2330 6 rfl) (kp_2330 44 rfl) (kp_2330 45 rfl) (kp_2330 47 rfl) u_2325; exact EX.chg (b' := 1) z rfl rfl rfl rfl rfl rfl rfl rfl rfl rfl (by omega) z.pl
                          have g_2347 : (0 : Int) ≤ (I_2326 o 47).toInt ∧ (I_2326 o 47).toInt ≤ 7 := hR_2328.at0 ra 47 (by decide)
                          have a_2348 : ((I_2326 o 47) + 1).toInt = (I_2326 o 47).toInt + (1 : Int32).toInt := tAdd (by omega) (by omega)
                          refine fun I_2349 e_2350 => ?_
                          have hR_2351 : RI R I_2349 := hR_2328.up0 (k := 47) ra (by decide) (Or.inr hz57) e_2350 (show (0 : Int) ≤ ((I_2326 o 47) + 1).toInt by omega) (show ((I_2326 o 47) + 1).toInt ≤ (7 : Int) by omega)
                          have hf_2352 : Fm (fun c => c = o ∨ (o + 30 ≤ c ∧ c < o + 34)) I0 I_2349 := hf_2331.set (by first | rfl | omega | (dsimp only; omega)) e_2350
                          have t_2353 : (I_2349 o 3).toInt = (I_2326 o 3).toInt := by rw [← e_2350, q_u_k (by decide)]
                          have t_2354 : (I_2349 o 4).toInt = (I_2326 o 4).toInt := by rw [← e_2350, q_u_k (by decide)]
                          have t_2355 : (I_2349 o 6).toInt = (I_2326 o 6).toInt := by rw [← e_2350, q_u_k (by decide)]
                          have t_2356 : (I_2349 o 7).toInt = (I_2326 o 7).toInt := by rw [← e_2350, q_u_k (by decide)]
                          have t_2357 : (I_2349 o 8).toInt = (I_2326 o 8).toInt := by rw [← e_2350, q_u_k (by decide)]
                          have t_2358 : (I_2349 o 9).toInt = (I_2326 o 9).toInt := by rw [← e_2350, q_u_k (by decide)]
                          have t_2359 : (I_2349 o 44).toInt = (I_2326 o 44).toInt := by rw [← e_2350, q_u_k (by decide)]
                          have t_2360 : (I_2349 o 45).toInt = (I_2326 o 45).toInt := by rw [← e_2350, q_u_k (by decide)]
                          have t_2361 : (I_2349 o 47).toInt = ((I_2326 o 47) + 1).toInt := by rw [← e_2350, q_u_at]
                          have t_2362 : (I_2349 o 48).toInt = (I_2326 o 48).toInt := by rw [← e_2350, q_u_k (by decide)]
                          have t_2363 : (I_2349 o 46).toInt = (I_2326 o 46).toInt := by rw [← e_2350, q_u_k (by decide)]
                          have k_2364 : MTd I_2349 o := k_2343.fr (by rw [← e_2350]; exact q_u_ne (by omega)) (by rw [← e_2350]; exact q_u_ne (by omega)) (by rw [← e_2350]; exact q_u_ne (by omega))
                          have k_2365 : MPo I_2349 o := k_2344.fr (by rw [← e_2350, q_u_k (by decide)]) (by rw [← e_2350, q_u_k (by decide)])
                          have k_2366 : MTk I_2349 o := k_2345.fr (by rw [← e_2350, q_u_k (by decide)]) (by rw [← e_2350, q_u_k (by decide)]) (by rw [← e_2350, q_u_k (by decide)])
                          have tk := k_2366.2 (by omega)
                          have k_2368 : EX 0 0 1 f0 1 I_2349 o := by exact EX.put47 k_2346 e_2350 (by omega)
                          refine y_Model_next hok hw ra hz16 hz17 hz18 hz19 (by first | omega | (intro h; omega) | exact Or.inl rfl | exact Or.inr rfl) hR_2351 (fun I_2378 L_2379 hR_2380 fr_2381 kp_2382 u_2370 u_2371 u_2372 u_2373 u_2374 u_2375 u_2376 u_2377 => ⟨I_2378, L_2379, rfl, rfl, ?_⟩)
                          have hf_2383 : Fm (fun c => c = o ∨ (o + 30 ≤ c ∧ c < o + 34)) I0 I_2378 := hf_2352.call fr_2381 (fun c hc => by first | exact hc | (dsimp only at hc ⊢; omega) | omega)
                          have t_2384 : (I_2378 o 3).toInt = (I_2349 o 3).toInt := by rw [kp_2382 3 rfl]
                          have t_2385 : (I_2378 o 4).toInt = (I_2349 o 4).toInt := by rw [kp_2382 4 rfl]
                          have g_2386 : (0 : Int) ≤ (I_2378 o 6).toInt ∧ (I_2378 o 6).toInt ≤ 1600 := hR_2380.at0 ra 6 (by decide)
                          have g_2387 : (0 : Int) ≤ (I_2378 o 7).toInt ∧ (I_2378 o 7).toInt ≤ 1601 := hR_2380.at0 ra 7 (by decide)
                          have g_2388 : (0 : Int) ≤ (I_2378 o 8).toInt ∧ (I_2378 o 8).toInt ≤ 6 := hR_2380.at0 ra 8 (by decide)
                          have t_2389 : (I_2378 o 44).toInt = (I_2349 o 44).toInt := by rw [kp_2382 44 rfl]
                          have t_2390 : (I_2378 o 45).toInt = (I_2349 o 45).toInt := by rw [kp_2382 45 rfl]
                          have t_2391 : (I_2378 o 47).toInt = (I_2349 o 47).toInt := by rw [kp_2382 47 rfl]
                          have t_2392 : (I_2378 o 48).toInt = (I_2349 o 48).toInt := by rw [kp_2382 48 rfl]
                          have t_2393 : (I_2378 o 46).toInt = (I_2349 o 46).toInt := by rw [kp_2382 46 rfl]
                          have k_2394 : MTd I_2378 o := k_2364.fr (fr_2381 _ (by first | omega | (dsimp only; omega))) (fr_2381 _ (by first | omega | (dsimp only; omega))) (fr_2381 _ (by first | omega | (dsimp only; omega)))
                          have ms := u_2373 (by omega)
                          have k_2395 : EX 0 0 0 f0 1 I_2378 o := by exact EX.nx k_2368 (fr_2381 _ (by first | omega | (dsimp only; omega))) (fr_2381 _ (by first | omega | (dsimp only; omega))) (fr_2381 _ (by first | omega | (dsimp only; omega))) (fr_2381 _ (by first | omega | (dsimp only; omega))) (fr_2381 _ (by first | omega | (dsimp only; omega))) (kp_2382 3 rfl) (kp_2382 44 rfl) (kp_2382 45 rfl) (kp_2382 47 rfl) (kp_2382 48 rfl) (by omega) (by omega)
                          exact (hp _ _ _ hR_2380 hf_2383 (Or.inr rfl) (by first | omega | (intro h; omega) | exact Or.inl rfl | exact Or.inr rfl) (by first | omega | (intro h; omega) | exact Or.inl rfl | exact Or.inr rfl) (by first | omega | (intro h; omega) | exact Or.inl rfl | exact Or.inr rfl) (by first | omega | (intro h; omega) | exact Or.inl rfl | exact Or.inr rfl) (by first | omega | (intro h; omega) | exact Or.inl rfl | exact Or.inr rfl) (by first | (intro h; exfalso; omega) | exact fun _ => k_2395 | exact fun _ => (False.elim (by omega))) k_2394 u_2376 u_2377)
                        · have d_2396 := iEq c_2319
                          have i_2397 := u_2317 (by omega)
                          exact (hp _ _ _ hR_2221 hf_2222 (Or.inr rfl) (by first | omega | (intro h; omega) | exact Or.inl rfl | exact Or.inr rfl) (by first | omega | (intro h; omega) | exact Or.inl rfl | exact Or.inr rfl) (by first | omega | (intro h; omega) | exact Or.inl rfl | exact Or.inr rfl) (by first | omega | (intro h; omega) | exact Or.inl rfl | exact Or.inr rfl) (by first | omega | (intro h; omega) | exact Or.inl rfl | exact Or.inr rfl) (by first | (intro h; exfalso; omega) | exact fun _ => k_2234 | exact fun _ => (False.elim (by omega))) k_2235 k_2236 k_2237)
                      · have d_2398 := iEq c_2312
                        refine y_Model_wrong hok hw ra hz14 hz15 hR_2221 (fun I_2402 L_2403 hR_2404 fr_2405 kp_2406 u_2400 u_2401 => ⟨I_2402, L_2403, rfl, rfl, ?_⟩)
                        have hf_2407 : Fm (fun c => c = o ∨ (o + 30 ≤ c ∧ c < o + 34)) I0 I_2402 := hf_2222.call fr_2405 (fun c hc => by first | exact hc | (dsimp only at hc ⊢; omega) | omega)
                        have t_2408 : (I_2402 o 3).toInt = (I_2219 o 3).toInt := by rw [kp_2406 3 rfl]
                        have g_2409 : (0 : Int) ≤ (I_2402 o 4).toInt ∧ (I_2402 o 4).toInt ≤ 5 := hR_2404.at0 ra 4 (by decide)
                        have t_2410 : (I_2402 o 6).toInt = (I_2219 o 6).toInt := by rw [kp_2406 6 rfl]
                        have t_2411 : (I_2402 o 7).toInt = (I_2219 o 7).toInt := by rw [kp_2406 7 rfl]
                        have t_2412 : (I_2402 o 8).toInt = (I_2219 o 8).toInt := by rw [kp_2406 8 rfl]
                        have t_2413 : (I_2402 o 9).toInt = (I_2219 o 9).toInt := by rw [kp_2406 9 rfl]
                        have t_2414 : (I_2402 o 44).toInt = (I_2219 o 44).toInt := by rw [kp_2406 44 rfl]
                        have t_2415 : (I_2402 o 45).toInt = (I_2219 o 45).toInt := by rw [kp_2406 45 rfl]
                        have t_2416 : (I_2402 o 47).toInt = (I_2219 o 47).toInt := by rw [kp_2406 47 rfl]
                        have t_2417 : (I_2402 o 48).toInt = (I_2219 o 48).toInt := by rw [kp_2406 48 rfl]
                        have t_2418 : (I_2402 o 46).toInt = (I_2219 o 46).toInt := by rw [kp_2406 46 rfl]
                        have k_2419 : EX 0 0 0 f0 1 I_2402 o := k_2234.fr (fr_2405 _ (by first | omega | (dsimp only; omega))) (fr_2405 _ (by first | omega | (dsimp only; omega))) (fr_2405 _ (by first | omega | (dsimp only; omega))) (fr_2405 _ (by first | omega | (dsimp only; omega))) (fr_2405 _ (by first | omega | (dsimp only; omega))) (kp_2406 3 rfl) (kp_2406 6 rfl) (kp_2406 44 rfl) (kp_2406 45 rfl) (kp_2406 47 rfl) (kp_2406 48 rfl)
                        have k_2420 : MTd I_2402 o := k_2235.fr (fr_2405 _ (by first | omega | (dsimp only; omega))) (fr_2405 _ (by first | omega | (dsimp only; omega))) (fr_2405 _ (by first | omega | (dsimp only; omega)))
                        have k_2421 : MPo I_2402 o := k_2236.fr (kp_2406 8 rfl) (kp_2406 9 rfl)
                        have k_2422 : MTk I_2402 o := k_2237.fr (kp_2406 6 rfl) (kp_2406 7 rfl) (kp_2406 8 rfl)
                        refine y_Model_isGood hok hw ra hR_2404 (fun r_2423 u_2424 u_2425 u_2426 => ⟨r_2423, I_2402, L_2403, rfl, rfl, ?_⟩)
                        have b_2427 : 0 ≤ r_2423.toInt ∧ r_2423.toInt ≤ 1 := u_2424.rg
                        refine ⟨fun c_2428 => ?_, fun c_2428 => ?_⟩
                        · have d_2429 := iNe c_2428
                          have i_2430 := u_2425 (by omega)
                          refine y_Model_pile hok hw ra hz58 (by first | omega | (intro h; omega) | exact Or.inl rfl | exact Or.inr rfl) (by first | omega | (intro h; omega) | exact Or.inl rfl | exact Or.inr rfl) hR_2404 (fun I_2435 L_2436 hR_2437 fr_2438 kp_2439 u_2432 u_2433 u_2434 => ⟨I_2435, L_2436, rfl, rfl, ?_⟩)
                          have hf_2440 : Fm (fun c => c = o ∨ (o + 30 ≤ c ∧ c < o + 34)) I0 I_2435 := hf_2407.call fr_2438 (fun c hc => by first | exact hc | (dsimp only at hc ⊢; omega) | omega)
                          have t_2441 : (I_2435 o 3).toInt = (I_2402 o 3).toInt := by rw [kp_2439 3 rfl]
                          have t_2442 : (I_2435 o 4).toInt = (I_2402 o 4).toInt := by rw [kp_2439 4 rfl]
                          have t_2443 : (I_2435 o 6).toInt = (I_2402 o 6).toInt := by rw [kp_2439 6 rfl]
                          have t_2444 : (I_2435 o 7).toInt = (I_2402 o 7).toInt := by rw [kp_2439 7 rfl]
                          have t_2445 : (I_2435 o 8).toInt = (I_2402 o 8).toInt := by rw [kp_2439 8 rfl]
                          have t_2446 : (I_2435 o 9).toInt = (I_2402 o 9).toInt := by rw [kp_2439 9 rfl]
                          have t_2447 : (I_2435 o 44).toInt = (I_2402 o 44).toInt := by rw [kp_2439 44 rfl]
                          have t_2448 : (I_2435 o 45).toInt = (I_2402 o 45).toInt := by rw [kp_2439 45 rfl]
                          have t_2449 : (I_2435 o 47).toInt = (I_2402 o 47).toInt := by rw [kp_2439 47 rfl]
                          have g_2450 : (0 : Int) ≤ (I_2435 o 48).toInt ∧ (I_2435 o 48).toInt ≤ 80 := hR_2437.at0 ra 48 (by decide)
                          have t_2451 : (I_2435 o 46).toInt = (I_2402 o 46).toInt := by rw [kp_2439 46 rfl]
                          have k_2452 : MTd I_2435 o := k_2420.fr (fr_2438 _ (by first | omega | (dsimp only; omega))) (fr_2438 _ (by first | omega | (dsimp only; omega))) (fr_2438 _ (by first | omega | (dsimp only; omega)))
                          have k_2453 : MPo I_2435 o := k_2421.fr (kp_2439 8 rfl) (kp_2439 9 rfl)
                          have k_2454 : MTk I_2435 o := k_2422.fr (kp_2439 6 rfl) (kp_2439 7 rfl) (kp_2439 8 rfl)
                          have k_2455 : EX 0 1 1 f0 1 I_2435 o := by have z := EX.push k_2419 (v := 7) (s := 0) (dB := 1) (dO := 0) (wt' := 1) (by decide) (by decide) (by decide) (by omega) ⟨by decide, by decide⟩ ⟨fun h => absurd h (by decide), fun h => absurd h (by decide)⟩ (Or.inl rfl) (fr_2438 _ (by first | omega | (dsimp only; omega))) (fr_2438 _ (by first | omega | (dsimp only; omega))) (fr_2438 _ (by first | omega | (dsimp only; omega))) u_2432 u_2433 (kp_2439 3 rfl) (kp_2439 6 rfl) (kp_2439 44 rfl) (kp_2439 45 rfl) (kp_2439 47 rfl) u_2434; exact EX.chg (b' := 1) z rfl rfl rfl rfl rfl rfl rfl rfl rfl rfl (by omega) z.pl
                          have g_2456 : (0 : Int) ≤ (I_2435 o 47).toInt ∧ (I_2435 o 47).toInt ≤ 7 := hR_2437.at0 ra 47 (by decide)
                          have a_2457 : ((I_2435 o 47) + 1).toInt = (I_2435 o 47).toInt + (1 : Int32).toInt := tAdd (by omega) (by omega)
                          refine fun I_2458 e_2459 => ?_
                          have hR_2460 : RI R I_2458 := hR_2437.up0 (k := 47) ra (by decide) (Or.inr hz57) e_2459 (show (0 : Int) ≤ ((I_2435 o 47) + 1).toInt by omega) (show ((I_2435 o 47) + 1).toInt ≤ (7 : Int) by omega)
                          have hf_2461 : Fm (fun c => c = o ∨ (o + 30 ≤ c ∧ c < o + 34)) I0 I_2458 := hf_2440.set (by first | rfl | omega | (dsimp only; omega)) e_2459
                          have t_2462 : (I_2458 o 3).toInt = (I_2435 o 3).toInt := by rw [← e_2459, q_u_k (by decide)]
                          have t_2463 : (I_2458 o 4).toInt = (I_2435 o 4).toInt := by rw [← e_2459, q_u_k (by decide)]
                          have t_2464 : (I_2458 o 6).toInt = (I_2435 o 6).toInt := by rw [← e_2459, q_u_k (by decide)]
                          have t_2465 : (I_2458 o 7).toInt = (I_2435 o 7).toInt := by rw [← e_2459, q_u_k (by decide)]
                          have t_2466 : (I_2458 o 8).toInt = (I_2435 o 8).toInt := by rw [← e_2459, q_u_k (by decide)]
                          have t_2467 : (I_2458 o 9).toInt = (I_2435 o 9).toInt := by rw [← e_2459, q_u_k (by decide)]
                          have t_2468 : (I_2458 o 44).toInt = (I_2435 o 44).toInt := by rw [← e_2459, q_u_k (by decide)]
                          have t_2469 : (I_2458 o 45).toInt = (I_2435 o 45).toInt := by rw [← e_2459, q_u_k (by decide)]
                          have t_2470 : (I_2458 o 47).toInt = ((I_2435 o 47) + 1).toInt := by rw [← e_2459, q_u_at]
                          have t_2471 : (I_2458 o 48).toInt = (I_2435 o 48).toInt := by rw [← e_2459, q_u_k (by decide)]
                          have t_2472 : (I_2458 o 46).toInt = (I_2435 o 46).toInt := by rw [← e_2459, q_u_k (by decide)]
                          have k_2473 : MTd I_2458 o := k_2452.fr (by rw [← e_2459]; exact q_u_ne (by omega)) (by rw [← e_2459]; exact q_u_ne (by omega)) (by rw [← e_2459]; exact q_u_ne (by omega))
                          have k_2474 : MPo I_2458 o := k_2453.fr (by rw [← e_2459, q_u_k (by decide)]) (by rw [← e_2459, q_u_k (by decide)])
                          have k_2475 : MTk I_2458 o := k_2454.fr (by rw [← e_2459, q_u_k (by decide)]) (by rw [← e_2459, q_u_k (by decide)]) (by rw [← e_2459, q_u_k (by decide)])
                          have tk := k_2475.2 (by omega)
                          have k_2477 : EX 0 0 1 f0 1 I_2458 o := by exact EX.put47 k_2455 e_2459 (by omega)
                          refine y_Model_next hok hw ra hz16 hz17 hz18 hz19 (by first | omega | (intro h; omega) | exact Or.inl rfl | exact Or.inr rfl) hR_2460 (fun I_2487 L_2488 hR_2489 fr_2490 kp_2491 u_2479 u_2480 u_2481 u_2482 u_2483 u_2484 u_2485 u_2486 => ⟨I_2487, L_2488, rfl, rfl, ?_⟩)
                          have hf_2492 : Fm (fun c => c = o ∨ (o + 30 ≤ c ∧ c < o + 34)) I0 I_2487 := hf_2461.call fr_2490 (fun c hc => by first | exact hc | (dsimp only at hc ⊢; omega) | omega)
                          have t_2493 : (I_2487 o 3).toInt = (I_2458 o 3).toInt := by rw [kp_2491 3 rfl]
                          have t_2494 : (I_2487 o 4).toInt = (I_2458 o 4).toInt := by rw [kp_2491 4 rfl]
                          have g_2495 : (0 : Int) ≤ (I_2487 o 6).toInt ∧ (I_2487 o 6).toInt ≤ 1600 := hR_2489.at0 ra 6 (by decide)
                          have g_2496 : (0 : Int) ≤ (I_2487 o 7).toInt ∧ (I_2487 o 7).toInt ≤ 1601 := hR_2489.at0 ra 7 (by decide)
                          have g_2497 : (0 : Int) ≤ (I_2487 o 8).toInt ∧ (I_2487 o 8).toInt ≤ 6 := hR_2489.at0 ra 8 (by decide)
                          have t_2498 : (I_2487 o 44).toInt = (I_2458 o 44).toInt := by rw [kp_2491 44 rfl]
                          have t_2499 : (I_2487 o 45).toInt = (I_2458 o 45).toInt := by rw [kp_2491 45 rfl]
                          have t_2500 : (I_2487 o 47).toInt = (I_2458 o 47).toInt := by rw [kp_2491 47 rfl]
                          have t_2501 : (I_2487 o 48).toInt = (I_2458 o 48).toInt := by rw [kp_2491 48 rfl]
                          have t_2502 : (I_2487 o 46).toInt = (I_2458 o 46).toInt := by rw [kp_2491 46 rfl]
                          have k_2503 : MTd I_2487 o := k_2473.fr (fr_2490 _ (by first | omega | (dsimp only; omega))) (fr_2490 _ (by first | omega | (dsimp only; omega))) (fr_2490 _ (by first | omega | (dsimp only; omega)))
                          have ms := u_2482 (by omega)
                          have k_2504 : EX 0 0 0 f0 1 I_2487 o := by exact EX.nx k_2477 (fr_2490 _ (by first | omega | (dsimp only; omega))) (fr_2490 _ (by first | omega | (dsimp only; omega))) (fr_2490 _ (by first | omega | (dsimp only; omega))) (fr_2490 _ (by first | omega | (dsimp only; omega))) (fr_2490 _ (by first | omega | (dsimp only; omega))) (kp_2491 3 rfl) (kp_2491 44 rfl) (kp_2491 45 rfl) (kp_2491 47 rfl) (kp_2491 48 rfl) (by omega) (by omega)
                          exact (hp _ _ _ hR_2489 hf_2492 (Or.inr rfl) (by first | omega | (intro h; omega) | exact Or.inl rfl | exact Or.inr rfl) (by first | omega | (intro h; omega) | exact Or.inl rfl | exact Or.inr rfl) (by first | omega | (intro h; omega) | exact Or.inl rfl | exact Or.inr rfl) (by first | omega | (intro h; omega) | exact Or.inl rfl | exact Or.inr rfl) (by first | omega | (intro h; omega) | exact Or.inl rfl | exact Or.inr rfl) (by first | (intro h; exfalso; omega) | exact fun _ => k_2504 | exact fun _ => (False.elim (by omega))) k_2503 u_2485 u_2486)
                        · have d_2505 := iEq c_2428
                          have i_2506 := u_2426 (by omega)
                          exact (hp _ _ _ hR_2404 hf_2407 (Or.inr rfl) (by first | omega | (intro h; omega) | exact Or.inl rfl | exact Or.inr rfl) (by first | omega | (intro h; omega) | exact Or.inl rfl | exact Or.inr rfl) (by first | omega | (intro h; omega) | exact Or.inl rfl | exact Or.inr rfl) (by first | omega | (intro h; omega) | exact Or.inl rfl | exact Or.inr rfl) (by first | omega | (intro h; omega) | exact Or.inl rfl | exact Or.inr rfl) (by first | (intro h; exfalso; omega) | exact fun _ => k_2419 | exact fun _ => (False.elim (by omega))) k_2420 k_2421 k_2422)
                  · have d_2507 := iEq c_2214
                    have i_2508 := u_2212 (by omega)
                    exact (hp _ _ _ hR_2190 hf_2193 (Or.inr rfl) (by first | omega | (intro h; omega) | exact Or.inl rfl | exact Or.inr rfl) (by first | omega | (intro h; omega) | exact Or.inl rfl | exact Or.inr rfl) (by first | omega | (intro h; omega) | exact Or.inl rfl | exact Or.inr rfl) (by first | omega | (intro h; omega) | exact Or.inl rfl | exact Or.inr rfl) (by first | omega | (intro h; omega) | exact Or.inl rfl | exact Or.inr rfl) (by first | (intro h; exfalso; omega) | exact fun _ => k_2205 | exact fun _ => (False.elim (by omega))) k_2206 k_2207 k_2208)
        · have d_2509 := iEq c_57
          have i_2510 := u_55 (by omega)
          exact (hp _ _ _ hR_34 hf_37 (Or.inr rfl) (by first | omega | (intro h; omega) | exact Or.inl rfl | exact Or.inr rfl) (by first | omega | (intro h; omega) | exact Or.inl rfl | exact Or.inr rfl) (by first | omega | (intro h; omega) | exact Or.inl rfl | exact Or.inr rfl) (by first | omega | (intro h; omega) | exact Or.inl rfl | exact Or.inr rfl) (by first | omega | (intro h; omega) | exact Or.inl rfl | exact Or.inr rfl) (by first | (intro h; exfalso; omega) | exact fun _ => k_48 | exact fun _ => (False.elim (by omega))) k_49 k_50 k_51)
      · have d_2511 := iNe c_26
        have i_2512 := u_24 (by omega)
        have g_2513 : (0 : Int) ≤ (I0 o 47).toInt ∧ (I0 o 47).toInt ≤ 7 := hR.at0 ra 47 (by decide)
        have l_2514 : (7 : Int32).toInt = 7 := rfl
        refine ⟨fun c_2515 => ?_, fun c_2515 => ?_⟩
        · have d_2516 := iNe c_2515
          refine y_Model_isGood hok hw ra hR (fun r_2517 u_2518 u_2519 u_2520 => ⟨r_2517, I0, L0, rfl, rfl, ?_⟩)
          have b_2521 : 0 ≤ r_2517.toInt ∧ r_2517.toInt ≤ 1 := u_2518.rg
          refine ⟨fun c_2522 => ?_, fun c_2522 => ?_⟩
          · have d_2523 := iNe c_2522
            have i_2524 := u_2519 (by omega)
            have l_2525 : (126 : Int32).toInt = 126 := rfl
            refine y_Model_pile hok hw ra hz58 (by first | omega | (intro h; omega) | exact Or.inl rfl | exact Or.inr rfl) (by first | omega | (intro h; omega) | exact Or.inl rfl | exact Or.inr rfl) hR (fun I_2530 L_2531 hR_2532 fr_2533 kp_2534 u_2527 u_2528 u_2529 => ⟨I_2530, L_2531, rfl, rfl, ?_⟩)
            have hf_2535 : Fm (fun c => c = o ∨ (o + 30 ≤ c ∧ c < o + 34)) I0 I_2530 := hf.call fr_2533 (fun c hc => by first | exact hc | (dsimp only at hc ⊢; omega) | omega)
            have t_2536 : (I_2530 o 3).toInt = (I0 o 3).toInt := by rw [kp_2534 3 rfl]
            have t_2537 : (I_2530 o 4).toInt = (I0 o 4).toInt := by rw [kp_2534 4 rfl]
            have t_2538 : (I_2530 o 6).toInt = (I0 o 6).toInt := by rw [kp_2534 6 rfl]
            have t_2539 : (I_2530 o 7).toInt = (I0 o 7).toInt := by rw [kp_2534 7 rfl]
            have t_2540 : (I_2530 o 8).toInt = (I0 o 8).toInt := by rw [kp_2534 8 rfl]
            have t_2541 : (I_2530 o 9).toInt = (I0 o 9).toInt := by rw [kp_2534 9 rfl]
            have t_2542 : (I_2530 o 44).toInt = (I0 o 44).toInt := by rw [kp_2534 44 rfl]
            have t_2543 : (I_2530 o 45).toInt = (I0 o 45).toInt := by rw [kp_2534 45 rfl]
            have t_2544 : (I_2530 o 47).toInt = (I0 o 47).toInt := by rw [kp_2534 47 rfl]
            have g_2545 : (0 : Int) ≤ (I_2530 o 48).toInt ∧ (I_2530 o 48).toInt ≤ 80 := hR_2532.at0 ra 48 (by decide)
            have k_2546 : MTd I_2530 o := hq3.fr (fr_2533 _ (by first | omega | (dsimp only; omega))) (fr_2533 _ (by first | omega | (dsimp only; omega))) (fr_2533 _ (by first | omega | (dsimp only; omega)))
            have k_2547 : MPo I_2530 o := hq4.fr (kp_2534 8 rfl) (kp_2534 9 rfl)
            have k_2548 : MTk I_2530 o := hq5.fr (kp_2534 6 rfl) (kp_2534 7 rfl) (kp_2534 8 rfl)
            have k_2549 : EX 0 1 1 f0 1 I_2530 o := by exact EX.push hq2 (by decide) (by decide) (by decide) (by omega) ⟨by decide, by decide⟩ ⟨fun _ => rfl, fun h => absurd h (by decide)⟩ (Or.inl rfl) (fr_2533 _ (by first | omega | (dsimp only; omega))) (fr_2533 _ (by first | omega | (dsimp only; omega))) (fr_2533 _ (by first | omega | (dsimp only; omega))) u_2527 u_2528 (kp_2534 3 rfl) (kp_2534 6 rfl) (kp_2534 44 rfl) (kp_2534 45 rfl) (kp_2534 47 rfl) u_2529
            have g_2550 : (0 : Int) ≤ (I_2530 o 47).toInt ∧ (I_2530 o 47).toInt ≤ 7 := hR_2532.at0 ra 47 (by decide)
            have a_2551 : ((I_2530 o 47) + 1).toInt = (I_2530 o 47).toInt + (1 : Int32).toInt := tAdd (by omega) (by omega)
            refine fun I_2552 e_2553 => ?_
            have hR_2554 : RI R I_2552 := hR_2532.up0 (k := 47) ra (by decide) (Or.inr hz57) e_2553 (show (0 : Int) ≤ ((I_2530 o 47) + 1).toInt by omega) (show ((I_2530 o 47) + 1).toInt ≤ (7 : Int) by omega)
            have hf_2555 : Fm (fun c => c = o ∨ (o + 30 ≤ c ∧ c < o + 34)) I0 I_2552 := hf_2535.set (by first | rfl | omega | (dsimp only; omega)) e_2553
            have t_2556 : (I_2552 o 3).toInt = (I_2530 o 3).toInt := by rw [← e_2553, q_u_k (by decide)]
            have t_2557 : (I_2552 o 4).toInt = (I_2530 o 4).toInt := by rw [← e_2553, q_u_k (by decide)]
            have t_2558 : (I_2552 o 6).toInt = (I_2530 o 6).toInt := by rw [← e_2553, q_u_k (by decide)]
            have t_2559 : (I_2552 o 7).toInt = (I_2530 o 7).toInt := by rw [← e_2553, q_u_k (by decide)]
            have t_2560 : (I_2552 o 8).toInt = (I_2530 o 8).toInt := by rw [← e_2553, q_u_k (by decide)]
            have t_2561 : (I_2552 o 9).toInt = (I_2530 o 9).toInt := by rw [← e_2553, q_u_k (by decide)]
            have t_2562 : (I_2552 o 44).toInt = (I_2530 o 44).toInt := by rw [← e_2553, q_u_k (by decide)]
            have t_2563 : (I_2552 o 45).toInt = (I_2530 o 45).toInt := by rw [← e_2553, q_u_k (by decide)]
            have t_2564 : (I_2552 o 47).toInt = ((I_2530 o 47) + 1).toInt := by rw [← e_2553, q_u_at]
            have t_2565 : (I_2552 o 48).toInt = (I_2530 o 48).toInt := by rw [← e_2553, q_u_k (by decide)]
            have k_2566 : MTd I_2552 o := k_2546.fr (by rw [← e_2553]; exact q_u_ne (by omega)) (by rw [← e_2553]; exact q_u_ne (by omega)) (by rw [← e_2553]; exact q_u_ne (by omega))
            have k_2567 : MPo I_2552 o := k_2547.fr (by rw [← e_2553, q_u_k (by decide)]) (by rw [← e_2553, q_u_k (by decide)])
            have k_2568 : MTk I_2552 o := k_2548.fr (by rw [← e_2553, q_u_k (by decide)]) (by rw [← e_2553, q_u_k (by decide)]) (by rw [← e_2553, q_u_k (by decide)])
            have tk := k_2568.2 (by omega)
            have k_2570 : EX 0 0 1 f0 1 I_2552 o := by exact EX.put47 k_2549 e_2553 (by omega)
            refine y_Model_next hok hw ra hz16 hz17 hz18 hz19 (by first | omega | (intro h; omega) | exact Or.inl rfl | exact Or.inr rfl) hR_2554 (fun I_2580 L_2581 hR_2582 fr_2583 kp_2584 u_2572 u_2573 u_2574 u_2575 u_2576 u_2577 u_2578 u_2579 => ⟨I_2580, L_2581, rfl, rfl, ?_⟩)
            have hf_2585 : Fm (fun c => c = o ∨ (o + 30 ≤ c ∧ c < o + 34)) I0 I_2580 := hf_2555.call fr_2583 (fun c hc => by first | exact hc | (dsimp only at hc ⊢; omega) | omega)
            have t_2586 : (I_2580 o 3).toInt = (I_2552 o 3).toInt := by rw [kp_2584 3 rfl]
            have t_2587 : (I_2580 o 4).toInt = (I_2552 o 4).toInt := by rw [kp_2584 4 rfl]
            have g_2588 : (0 : Int) ≤ (I_2580 o 6).toInt ∧ (I_2580 o 6).toInt ≤ 1600 := hR_2582.at0 ra 6 (by decide)
            have g_2589 : (0 : Int) ≤ (I_2580 o 7).toInt ∧ (I_2580 o 7).toInt ≤ 1601 := hR_2582.at0 ra 7 (by decide)
            have g_2590 : (0 : Int) ≤ (I_2580 o 8).toInt ∧ (I_2580 o 8).toInt ≤ 6 := hR_2582.at0 ra 8 (by decide)
            have t_2591 : (I_2580 o 44).toInt = (I_2552 o 44).toInt := by rw [kp_2584 44 rfl]
            have t_2592 : (I_2580 o 45).toInt = (I_2552 o 45).toInt := by rw [kp_2584 45 rfl]
            have t_2593 : (I_2580 o 47).toInt = (I_2552 o 47).toInt := by rw [kp_2584 47 rfl]
            have t_2594 : (I_2580 o 48).toInt = (I_2552 o 48).toInt := by rw [kp_2584 48 rfl]
            have k_2595 : MTd I_2580 o := k_2566.fr (fr_2583 _ (by first | omega | (dsimp only; omega))) (fr_2583 _ (by first | omega | (dsimp only; omega))) (fr_2583 _ (by first | omega | (dsimp only; omega)))
            have ms := u_2575 (by omega)
            have k_2596 : EX 0 0 0 f0 1 I_2580 o := by exact EX.nx k_2570 (fr_2583 _ (by first | omega | (dsimp only; omega))) (fr_2583 _ (by first | omega | (dsimp only; omega))) (fr_2583 _ (by first | omega | (dsimp only; omega))) (fr_2583 _ (by first | omega | (dsimp only; omega))) (fr_2583 _ (by first | omega | (dsimp only; omega))) (kp_2584 3 rfl) (kp_2584 44 rfl) (kp_2584 45 rfl) (kp_2584 47 rfl) (kp_2584 48 rfl) (by omega) (by omega)
            exact (hp _ _ _ hR_2582 hf_2585 (Or.inr rfl) (by first | omega | (intro h; omega) | exact Or.inl rfl | exact Or.inr rfl) (by first | omega | (intro h; omega) | exact Or.inl rfl | exact Or.inr rfl) (by first | omega | (intro h; omega) | exact Or.inl rfl | exact Or.inr rfl) (by first | omega | (intro h; omega) | exact Or.inl rfl | exact Or.inr rfl) (by first | omega | (intro h; omega) | exact Or.inl rfl | exact Or.inr rfl) (by first | (intro h; exfalso; omega) | exact fun _ => k_2596 | exact fun _ => (False.elim (by omega))) k_2595 u_2578 u_2579)
          · have d_2597 := iEq c_2522
            have i_2598 := u_2520 (by omega)
            exact (hp _ _ _ hR hf (Or.inr rfl) (by first | omega | (intro h; omega) | exact Or.inl rfl | exact Or.inr rfl) (by first | omega | (intro h; omega) | exact Or.inl rfl | exact Or.inr rfl) (by first | omega | (intro h; omega) | exact Or.inl rfl | exact Or.inr rfl) (by first | omega | (intro h; omega) | exact Or.inl rfl | exact Or.inr rfl) (by first | omega | (intro h; omega) | exact Or.inl rfl | exact Or.inr rfl) (by first | (intro h; exfalso; omega) | exact fun _ => hq2 | exact fun _ => (False.elim (by omega))) hq3 hq4 hq5)
        · have d_2599 := iEq c_2515
          refine y_Model_wrong hok hw ra hz14 hz15 hR (fun I_2603 L_2604 hR_2605 fr_2606 kp_2607 u_2601 u_2602 => ⟨I_2603, L_2604, rfl, rfl, ?_⟩)
          have hf_2608 : Fm (fun c => c = o ∨ (o + 30 ≤ c ∧ c < o + 34)) I0 I_2603 := hf.call fr_2606 (fun c hc => by first | exact hc | (dsimp only at hc ⊢; omega) | omega)
          have t_2609 : (I_2603 o 3).toInt = (I0 o 3).toInt := by rw [kp_2607 3 rfl]
          have g_2610 : (0 : Int) ≤ (I_2603 o 4).toInt ∧ (I_2603 o 4).toInt ≤ 5 := hR_2605.at0 ra 4 (by decide)
          have t_2611 : (I_2603 o 6).toInt = (I0 o 6).toInt := by rw [kp_2607 6 rfl]
          have t_2612 : (I_2603 o 7).toInt = (I0 o 7).toInt := by rw [kp_2607 7 rfl]
          have t_2613 : (I_2603 o 8).toInt = (I0 o 8).toInt := by rw [kp_2607 8 rfl]
          have t_2614 : (I_2603 o 9).toInt = (I0 o 9).toInt := by rw [kp_2607 9 rfl]
          have t_2615 : (I_2603 o 44).toInt = (I0 o 44).toInt := by rw [kp_2607 44 rfl]
          have t_2616 : (I_2603 o 45).toInt = (I0 o 45).toInt := by rw [kp_2607 45 rfl]
          have t_2617 : (I_2603 o 47).toInt = (I0 o 47).toInt := by rw [kp_2607 47 rfl]
          have t_2618 : (I_2603 o 48).toInt = (I0 o 48).toInt := by rw [kp_2607 48 rfl]
          have k_2619 : EX 0 0 0 f0 1 I_2603 o := hq2.fr (fr_2606 _ (by first | omega | (dsimp only; omega))) (fr_2606 _ (by first | omega | (dsimp only; omega))) (fr_2606 _ (by first | omega | (dsimp only; omega))) (fr_2606 _ (by first | omega | (dsimp only; omega))) (fr_2606 _ (by first | omega | (dsimp only; omega))) (kp_2607 3 rfl) (kp_2607 6 rfl) (kp_2607 44 rfl) (kp_2607 45 rfl) (kp_2607 47 rfl) (kp_2607 48 rfl)
          have k_2620 : MTd I_2603 o := hq3.fr (fr_2606 _ (by first | omega | (dsimp only; omega))) (fr_2606 _ (by first | omega | (dsimp only; omega))) (fr_2606 _ (by first | omega | (dsimp only; omega)))
          have k_2621 : MPo I_2603 o := hq4.fr (kp_2607 8 rfl) (kp_2607 9 rfl)
          have k_2622 : MTk I_2603 o := hq5.fr (kp_2607 6 rfl) (kp_2607 7 rfl) (kp_2607 8 rfl)
          refine y_Model_isGood hok hw ra hR_2605 (fun r_2623 u_2624 u_2625 u_2626 => ⟨r_2623, I_2603, L_2604, rfl, rfl, ?_⟩)
          have b_2627 : 0 ≤ r_2623.toInt ∧ r_2623.toInt ≤ 1 := u_2624.rg
          refine ⟨fun c_2628 => ?_, fun c_2628 => ?_⟩
          · have d_2629 := iNe c_2628
            have i_2630 := u_2625 (by omega)
            have l_2631 : (126 : Int32).toInt = 126 := rfl
            refine y_Model_pile hok hw ra hz58 (by first | omega | (intro h; omega) | exact Or.inl rfl | exact Or.inr rfl) (by first | omega | (intro h; omega) | exact Or.inl rfl | exact Or.inr rfl) hR_2605 (fun I_2636 L_2637 hR_2638 fr_2639 kp_2640 u_2633 u_2634 u_2635 => ⟨I_2636, L_2637, rfl, rfl, ?_⟩)
            have hf_2641 : Fm (fun c => c = o ∨ (o + 30 ≤ c ∧ c < o + 34)) I0 I_2636 := hf_2608.call fr_2639 (fun c hc => by first | exact hc | (dsimp only at hc ⊢; omega) | omega)
            have t_2642 : (I_2636 o 3).toInt = (I_2603 o 3).toInt := by rw [kp_2640 3 rfl]
            have t_2643 : (I_2636 o 4).toInt = (I_2603 o 4).toInt := by rw [kp_2640 4 rfl]
            have t_2644 : (I_2636 o 6).toInt = (I_2603 o 6).toInt := by rw [kp_2640 6 rfl]
            have t_2645 : (I_2636 o 7).toInt = (I_2603 o 7).toInt := by rw [kp_2640 7 rfl]
            have t_2646 : (I_2636 o 8).toInt = (I_2603 o 8).toInt := by rw [kp_2640 8 rfl]
            have t_2647 : (I_2636 o 9).toInt = (I_2603 o 9).toInt := by rw [kp_2640 9 rfl]
            have t_2648 : (I_2636 o 44).toInt = (I_2603 o 44).toInt := by rw [kp_2640 44 rfl]
            have t_2649 : (I_2636 o 45).toInt = (I_2603 o 45).toInt := by rw [kp_2640 45 rfl]
            have t_2650 : (I_2636 o 47).toInt = (I_2603 o 47).toInt := by rw [kp_2640 47 rfl]
            have g_2651 : (0 : Int) ≤ (I_2636 o 48).toInt ∧ (I_2636 o 48).toInt ≤ 80 := hR_2638.at0 ra 48 (by decide)
            have k_2652 : MTd I_2636 o := k_2620.fr (fr_2639 _ (by first | omega | (dsimp only; omega))) (fr_2639 _ (by first | omega | (dsimp only; omega))) (fr_2639 _ (by first | omega | (dsimp only; omega)))
            have k_2653 : MPo I_2636 o := k_2621.fr (kp_2640 8 rfl) (kp_2640 9 rfl)
            have k_2654 : MTk I_2636 o := k_2622.fr (kp_2640 6 rfl) (kp_2640 7 rfl) (kp_2640 8 rfl)
            have k_2655 : EX 0 1 1 f0 1 I_2636 o := by exact EX.push k_2619 (by decide) (by decide) (by decide) (by omega) ⟨by decide, by decide⟩ ⟨fun _ => rfl, fun h => absurd h (by decide)⟩ (Or.inl rfl) (fr_2639 _ (by first | omega | (dsimp only; omega))) (fr_2639 _ (by first | omega | (dsimp only; omega))) (fr_2639 _ (by first | omega | (dsimp only; omega))) u_2633 u_2634 (kp_2640 3 rfl) (kp_2640 6 rfl) (kp_2640 44 rfl) (kp_2640 45 rfl) (kp_2640 47 rfl) u_2635
            have g_2656 : (0 : Int) ≤ (I_2636 o 47).toInt ∧ (I_2636 o 47).toInt ≤ 7 := hR_2638.at0 ra 47 (by decide)
            have a_2657 : ((I_2636 o 47) + 1).toInt = (I_2636 o 47).toInt + (1 : Int32).toInt := tAdd (by omega) (by omega)
            refine fun I_2658 e_2659 => ?_
            have hR_2660 : RI R I_2658 := hR_2638.up0 (k := 47) ra (by decide) (Or.inr hz57) e_2659 (show (0 : Int) ≤ ((I_2636 o 47) + 1).toInt by omega) (show ((I_2636 o 47) + 1).toInt ≤ (7 : Int) by omega)
            have hf_2661 : Fm (fun c => c = o ∨ (o + 30 ≤ c ∧ c < o + 34)) I0 I_2658 := hf_2641.set (by first | rfl | omega | (dsimp only; omega)) e_2659
            have t_2662 : (I_2658 o 3).toInt = (I_2636 o 3).toInt := by rw [← e_2659, q_u_k (by decide)]
            have t_2663 : (I_2658 o 4).toInt = (I_2636 o 4).toInt := by rw [← e_2659, q_u_k (by decide)]
            have t_2664 : (I_2658 o 6).toInt = (I_2636 o 6).toInt := by rw [← e_2659, q_u_k (by decide)]
            have t_2665 : (I_2658 o 7).toInt = (I_2636 o 7).toInt := by rw [← e_2659, q_u_k (by decide)]
            have t_2666 : (I_2658 o 8).toInt = (I_2636 o 8).toInt := by rw [← e_2659, q_u_k (by decide)]
            have t_2667 : (I_2658 o 9).toInt = (I_2636 o 9).toInt := by rw [← e_2659, q_u_k (by decide)]
            have t_2668 : (I_2658 o 44).toInt = (I_2636 o 44).toInt := by rw [← e_2659, q_u_k (by decide)]
            have t_2669 : (I_2658 o 45).toInt = (I_2636 o 45).toInt := by rw [← e_2659, q_u_k (by decide)]
            have t_2670 : (I_2658 o 47).toInt = ((I_2636 o 47) + 1).toInt := by rw [← e_2659, q_u_at]
            have t_2671 : (I_2658 o 48).toInt = (I_2636 o 48).toInt := by rw [← e_2659, q_u_k (by decide)]
            have k_2672 : MTd I_2658 o := k_2652.fr (by rw [← e_2659]; exact q_u_ne (by omega)) (by rw [← e_2659]; exact q_u_ne (by omega)) (by rw [← e_2659]; exact q_u_ne (by omega))
            have k_2673 : MPo I_2658 o := k_2653.fr (by rw [← e_2659, q_u_k (by decide)]) (by rw [← e_2659, q_u_k (by decide)])
            have k_2674 : MTk I_2658 o := k_2654.fr (by rw [← e_2659, q_u_k (by decide)]) (by rw [← e_2659, q_u_k (by decide)]) (by rw [← e_2659, q_u_k (by decide)])
            have tk := k_2674.2 (by omega)
            have k_2676 : EX 0 0 1 f0 1 I_2658 o := by exact EX.put47 k_2655 e_2659 (by omega)
            refine y_Model_next hok hw ra hz16 hz17 hz18 hz19 (by first | omega | (intro h; omega) | exact Or.inl rfl | exact Or.inr rfl) hR_2660 (fun I_2686 L_2687 hR_2688 fr_2689 kp_2690 u_2678 u_2679 u_2680 u_2681 u_2682 u_2683 u_2684 u_2685 => ⟨I_2686, L_2687, rfl, rfl, ?_⟩)
            have hf_2691 : Fm (fun c => c = o ∨ (o + 30 ≤ c ∧ c < o + 34)) I0 I_2686 := hf_2661.call fr_2689 (fun c hc => by first | exact hc | (dsimp only at hc ⊢; omega) | omega)
            have t_2692 : (I_2686 o 3).toInt = (I_2658 o 3).toInt := by rw [kp_2690 3 rfl]
            have t_2693 : (I_2686 o 4).toInt = (I_2658 o 4).toInt := by rw [kp_2690 4 rfl]
            have g_2694 : (0 : Int) ≤ (I_2686 o 6).toInt ∧ (I_2686 o 6).toInt ≤ 1600 := hR_2688.at0 ra 6 (by decide)
            have g_2695 : (0 : Int) ≤ (I_2686 o 7).toInt ∧ (I_2686 o 7).toInt ≤ 1601 := hR_2688.at0 ra 7 (by decide)
            have g_2696 : (0 : Int) ≤ (I_2686 o 8).toInt ∧ (I_2686 o 8).toInt ≤ 6 := hR_2688.at0 ra 8 (by decide)
            have t_2697 : (I_2686 o 44).toInt = (I_2658 o 44).toInt := by rw [kp_2690 44 rfl]
            have t_2698 : (I_2686 o 45).toInt = (I_2658 o 45).toInt := by rw [kp_2690 45 rfl]
            have t_2699 : (I_2686 o 47).toInt = (I_2658 o 47).toInt := by rw [kp_2690 47 rfl]
            have t_2700 : (I_2686 o 48).toInt = (I_2658 o 48).toInt := by rw [kp_2690 48 rfl]
            have k_2701 : MTd I_2686 o := k_2672.fr (fr_2689 _ (by first | omega | (dsimp only; omega))) (fr_2689 _ (by first | omega | (dsimp only; omega))) (fr_2689 _ (by first | omega | (dsimp only; omega)))
            have ms := u_2681 (by omega)
            have k_2702 : EX 0 0 0 f0 1 I_2686 o := by exact EX.nx k_2676 (fr_2689 _ (by first | omega | (dsimp only; omega))) (fr_2689 _ (by first | omega | (dsimp only; omega))) (fr_2689 _ (by first | omega | (dsimp only; omega))) (fr_2689 _ (by first | omega | (dsimp only; omega))) (fr_2689 _ (by first | omega | (dsimp only; omega))) (kp_2690 3 rfl) (kp_2690 44 rfl) (kp_2690 45 rfl) (kp_2690 47 rfl) (kp_2690 48 rfl) (by omega) (by omega)
            exact (hp _ _ _ hR_2688 hf_2691 (Or.inr rfl) (by first | omega | (intro h; omega) | exact Or.inl rfl | exact Or.inr rfl) (by first | omega | (intro h; omega) | exact Or.inl rfl | exact Or.inr rfl) (by first | omega | (intro h; omega) | exact Or.inl rfl | exact Or.inr rfl) (by first | omega | (intro h; omega) | exact Or.inl rfl | exact Or.inr rfl) (by first | omega | (intro h; omega) | exact Or.inl rfl | exact Or.inr rfl) (by first | (intro h; exfalso; omega) | exact fun _ => k_2702 | exact fun _ => (False.elim (by omega))) k_2701 u_2684 u_2685)
          · have d_2703 := iEq c_2628
            have i_2704 := u_2626 (by omega)
            exact (hp _ _ _ hR_2605 hf_2608 (Or.inr rfl) (by first | omega | (intro h; omega) | exact Or.inl rfl | exact Or.inr rfl) (by first | omega | (intro h; omega) | exact Or.inl rfl | exact Or.inr rfl) (by first | omega | (intro h; omega) | exact Or.inl rfl | exact Or.inr rfl) (by first | omega | (intro h; omega) | exact Or.inl rfl | exact Or.inr rfl) (by first | omega | (intro h; omega) | exact Or.inl rfl | exact Or.inr rfl) (by first | (intro h; exfalso; omega) | exact fun _ => k_2619 | exact fun _ => (False.elim (by omega))) k_2620 k_2621 k_2622)
  · have d_2705 := iNle c_15
    have g_2706 : (0 : Int) ≤ (I0 o 48).toInt ∧ (I0 o 48).toInt ≤ 80 := hR.at0 ra 48 (by decide)
    have a_2707 : ((I0 o 48) - 1).toInt = (I0 o 48).toInt - (1 : Int32).toInt := tSub (by omega) (by omega)
    refine ⟨tIn (by omega) (by omega), ?_⟩
    have g_2708 : (0 : Int) ≤ (I0 (o + 32) (((I0 o 48) - 1) : Int32).toNatClampNeg).toInt ∧ (I0 (o + 32) (((I0 o 48) - 1) : Int32).toNatClampNeg).toInt ≤ 8 := hR.at ra 32 _ (by decide)
    have l_2709 : (7 : Int32).toInt = 7 := rfl
    refine ⟨fun c_2710 => ?_, fun c_2710 => ?_⟩
    · have d_2711 := iLt c_2710
      unfold fModel_unit_36
      have l_2712 : (0 : Int32).toInt = 0 := rfl
      refine ⟨fun c_2713 => ?_, fun c_2713 => ?_⟩
      · have d_2714 := iEq c_2713
        unfold fModel_unit_96
        refine y_Model_wordHere hok hw ra hz14 hz15 hR (fun r_2715 I_2719 L_2720 hR_2721 fr_2722 kp_2723 u_2716 u_2717 u_2718 => ⟨r_2715, I_2719, L_2720, rfl, rfl, ?_⟩)
        have hf_2724 : Fm (fun c => c = o ∨ (o + 30 ≤ c ∧ c < o + 34)) I0 I_2719 := hf.call fr_2722 (fun c hc => by first | exact hc | (dsimp only at hc ⊢; omega) | omega)
        have t_2725 : (I_2719 o 3).toInt = (I0 o 3).toInt := by rw [kp_2723 3 rfl]
        have g_2726 : (0 : Int) ≤ (I_2719 o 4).toInt ∧ (I_2719 o 4).toInt ≤ 5 := hR_2721.at0 ra 4 (by decide)
        have t_2727 : (I_2719 o 6).toInt = (I0 o 6).toInt := by rw [kp_2723 6 rfl]
        have t_2728 : (I_2719 o 7).toInt = (I0 o 7).toInt := by rw [kp_2723 7 rfl]
        have t_2729 : (I_2719 o 8).toInt = (I0 o 8).toInt := by rw [kp_2723 8 rfl]
        have t_2730 : (I_2719 o 9).toInt = (I0 o 9).toInt := by rw [kp_2723 9 rfl]
        have t_2731 : (I_2719 o 44).toInt = (I0 o 44).toInt := by rw [kp_2723 44 rfl]
        have t_2732 : (I_2719 o 45).toInt = (I0 o 45).toInt := by rw [kp_2723 45 rfl]
        have t_2733 : (I_2719 o 47).toInt = (I0 o 47).toInt := by rw [kp_2723 47 rfl]
        have t_2734 : (I_2719 o 48).toInt = (I0 o 48).toInt := by rw [kp_2723 48 rfl]
        have k_2735 : EX 0 0 0 f0 1 I_2719 o := hq2.fr (fr_2722 _ (by first | omega | (dsimp only; omega))) (fr_2722 _ (by first | omega | (dsimp only; omega))) (fr_2722 _ (by first | omega | (dsimp only; omega))) (fr_2722 _ (by first | omega | (dsimp only; omega))) (fr_2722 _ (by first | omega | (dsimp only; omega))) (kp_2723 3 rfl) (kp_2723 6 rfl) (kp_2723 44 rfl) (kp_2723 45 rfl) (kp_2723 47 rfl) (kp_2723 48 rfl)
        have k_2736 : MTd I_2719 o := hq3.fr (fr_2722 _ (by first | omega | (dsimp only; omega))) (fr_2722 _ (by first | omega | (dsimp only; omega))) (fr_2722 _ (by first | omega | (dsimp only; omega)))
        have k_2737 : MPo I_2719 o := hq4.fr (kp_2723 8 rfl) (kp_2723 9 rfl)
        have k_2738 : MTk I_2719 o := hq5.fr (kp_2723 6 rfl) (kp_2723 7 rfl) (kp_2723 8 rfl)
        refine y_Model_isGood hok hw ra hR_2721 (fun r_2739 u_2740 u_2741 u_2742 => ⟨r_2739, I_2719, L_2720, rfl, rfl, ?_⟩)
        have b_2743 : 0 ≤ r_2739.toInt ∧ r_2739.toInt ≤ 1 := u_2740.rg
        refine ⟨fun c_2744 => ?_, fun c_2744 => ?_⟩
        · have d_2745 := iNe c_2744
          have i_2746 := u_2741 (by omega)
          refine ⟨fun c_2747 => ?_, fun c_2747 => ?_⟩
          · have d_2748 := iNe c_2747
            have i_2749 := u_2716 (by omega)
            have i_2750 := u_2717 (by omega)
            unfold fModel_unit_131
            have g_2751 : (0 : Int) ≤ (I_2719 o 46).toInt ∧ (I_2719 o 46).toInt ≤ 100 := hR_2721.at0 ra 46 (by decide)
            have l_2752 : (100 : Int32).toInt = 100 := rfl
            refine ⟨fun c_2753 => ?_, fun c_2753 => ?_⟩
            · have d_2754 := iNe c_2753
              refine y_Model_isGood hok hw ra hR_2721 (fun r_2755 u_2756 u_2757 u_2758 => ⟨r_2755, I_2719, L_2720, rfl, rfl, ?_⟩)
              have b_2759 : 0 ≤ r_2755.toInt ∧ r_2755.toInt ≤ 1 := u_2756.rg
              refine ⟨fun c_2760 => ?_, fun c_2760 => ?_⟩
              · have d_2761 := iNe c_2760
                have i_2762 := u_2757 (by omega)
                have g_2763 : (0 : Int) ≤ (I_2719 o 46).toInt ∧ (I_2719 o 46).toInt ≤ 100 := hR_2721.at0 ra 46 (by decide)
                have a_2764 : ((I_2719 o 46) + 1).toInt = (I_2719 o 46).toInt + (1 : Int32).toInt := tAdd (by omega) (by omega)
                refine fun I_2765 e_2766 => ?_
                have hR_2767 : RI R I_2765 := hR_2721.up0 (k := 46) ra (by decide) (Or.inr hz56) e_2766 (show (0 : Int) ≤ ((I_2719 o 46) + 1).toInt by omega) (show ((I_2719 o 46) + 1).toInt ≤ (100 : Int) by omega)
                have hf_2768 : Fm (fun c => c = o ∨ (o + 30 ≤ c ∧ c < o + 34)) I0 I_2765 := hf_2724.set (by first | rfl | omega | (dsimp only; omega)) e_2766
                have t_2769 : (I_2765 o 3).toInt = (I_2719 o 3).toInt := by rw [← e_2766, q_u_k (by decide)]
                have t_2770 : (I_2765 o 4).toInt = (I_2719 o 4).toInt := by rw [← e_2766, q_u_k (by decide)]
                have t_2771 : (I_2765 o 6).toInt = (I_2719 o 6).toInt := by rw [← e_2766, q_u_k (by decide)]
                have t_2772 : (I_2765 o 7).toInt = (I_2719 o 7).toInt := by rw [← e_2766, q_u_k (by decide)]
                have t_2773 : (I_2765 o 8).toInt = (I_2719 o 8).toInt := by rw [← e_2766, q_u_k (by decide)]
                have t_2774 : (I_2765 o 9).toInt = (I_2719 o 9).toInt := by rw [← e_2766, q_u_k (by decide)]
                have t_2775 : (I_2765 o 44).toInt = (I_2719 o 44).toInt := by rw [← e_2766, q_u_k (by decide)]
                have t_2776 : (I_2765 o 45).toInt = (I_2719 o 45).toInt := by rw [← e_2766, q_u_k (by decide)]
                have t_2777 : (I_2765 o 47).toInt = (I_2719 o 47).toInt := by rw [← e_2766, q_u_k (by decide)]
                have t_2778 : (I_2765 o 48).toInt = (I_2719 o 48).toInt := by rw [← e_2766, q_u_k (by decide)]
                have t_2779 : (I_2765 o 46).toInt = ((I_2719 o 46) + 1).toInt := by rw [← e_2766, q_u_at]
                have k_2780 : EX 0 0 0 f0 1 I_2765 o := k_2735.fr (by rw [← e_2766]; exact q_u_ne (by omega)) (by rw [← e_2766]; exact q_u_ne (by omega)) (by rw [← e_2766]; exact q_u_ne (by omega)) (by rw [← e_2766]; exact q_u_ne (by omega)) (by rw [← e_2766]; exact q_u_ne (by omega)) (by rw [← e_2766, q_u_k (by decide)]) (by rw [← e_2766, q_u_k (by decide)]) (by rw [← e_2766, q_u_k (by decide)]) (by rw [← e_2766, q_u_k (by decide)]) (by rw [← e_2766, q_u_k (by decide)]) (by rw [← e_2766, q_u_k (by decide)])
                have k_2781 : MTd I_2765 o := k_2736.fr (by rw [← e_2766]; exact q_u_ne (by omega)) (by rw [← e_2766]; exact q_u_ne (by omega)) (by rw [← e_2766]; exact q_u_ne (by omega))
                have k_2782 : MPo I_2765 o := k_2737.fr (by rw [← e_2766, q_u_k (by decide)]) (by rw [← e_2766, q_u_k (by decide)])
                have k_2783 : MTk I_2765 o := k_2738.fr (by rw [← e_2766, q_u_k (by decide)]) (by rw [← e_2766, q_u_k (by decide)]) (by rw [← e_2766, q_u_k (by decide)])
                have l_2784 : (40 : Int32).toInt = 40 := rfl
                refine y_Model_is hok hw ra hR_2767 (fun r_2785 u_2786 u_2787 u_2788 => ⟨r_2785, I_2765, L_2720, rfl, rfl, ?_⟩)
                have b_2789 : 0 ≤ r_2785.toInt ∧ r_2785.toInt ≤ 1 := u_2786.rg
                refine ⟨fun c_2790 => ?_, fun c_2790 => ?_⟩
                · have d_2791 := iEq c_2790
                  have cd := k_2780.cod
                  have tk := k_2783.2 (by omega)
                  refine ⟨fun c_2792 => ?_, fun c_2792 => ?_⟩
                  · have d_2793 := iNe c_2792
                    have i_2794 := u_2716 (by omega)
                    have i_2795 := u_2717 (by omega)
                    unfold fModel_unit_228
                    refine ⟨fun c_2796 => ?_, fun c_2796 => ?_⟩
                    · have d_2797 := iNe c_2796
                      have i_2798 := u_2716 (by omega)
                      have i_2799 := u_2717 (by omega)
                      refine y_Model_step hok hw ra hz55 (by first | omega | (intro h; omega) | exact Or.inl rfl | exact Or.inr rfl) (by first | omega | (intro h; omega) | exact Or.inl rfl | exact Or.inr rfl) hR_2767 (fun I_2803 L_2804 hR_2805 fr_2806 kp_2807 u_2801 u_2802 => ⟨I_2803, L_2804, rfl, rfl, ?_⟩)
                      have hf_2808 : Fm (fun c => c = o ∨ (o + 30 ≤ c ∧ c < o + 34)) I0 I_2803 := hf_2768.call fr_2806 (fun c hc => by first | exact hc | (dsimp only at hc ⊢; omega) | omega)
                      have t_2809 : (I_2803 o 3).toInt = (I_2765 o 3).toInt := by rw [kp_2807 3 rfl]
                      have t_2810 : (I_2803 o 4).toInt = (I_2765 o 4).toInt := by rw [kp_2807 4 rfl]
                      have t_2811 : (I_2803 o 6).toInt = (I_2765 o 6).toInt := by rw [kp_2807 6 rfl]
                      have t_2812 : (I_2803 o 7).toInt = (I_2765 o 7).toInt := by rw [kp_2807 7 rfl]
                      have t_2813 : (I_2803 o 8).toInt = (I_2765 o 8).toInt := by rw [kp_2807 8 rfl]
                      have t_2814 : (I_2803 o 9).toInt = (I_2765 o 9).toInt := by rw [kp_2807 9 rfl]
                      have t_2815 : (I_2803 o 44).toInt = (I_2765 o 44).toInt := by rw [kp_2807 44 rfl]
                      have g_2816 : (0 : Int) ≤ (I_2803 o 45).toInt ∧ (I_2803 o 45).toInt ≤ 700 := hR_2805.at0 ra 45 (by decide)
                      have t_2817 : (I_2803 o 47).toInt = (I_2765 o 47).toInt := by rw [kp_2807 47 rfl]
                      have t_2818 : (I_2803 o 48).toInt = (I_2765 o 48).toInt := by rw [kp_2807 48 rfl]
                      have t_2819 : (I_2803 o 46).toInt = (I_2765 o 46).toInt := by rw [kp_2807 46 rfl]
                      have k_2820 : MPo I_2803 o := k_2782.fr (kp_2807 8 rfl) (kp_2807 9 rfl)
                      have k_2821 : MTk I_2803 o := k_2783.fr (kp_2807 6 rfl) (kp_2807 7 rfl) (kp_2807 8 rfl)
                      have tk := k_2821.2 (by omega)
                      have k_2822 : EX 0 0 1 f0 0 I_2803 o := by exact EX.step1 k_2780 (by first | exact u_2716 (by omega) | (unfold isT; decide)) (by omega) (fr_2806 _ (by first | omega | (dsimp only; omega))) (fr_2806 _ (by first | omega | (dsimp only; omega))) u_2801 (fr_2806 _ (by first | omega | (dsimp only; omega))) (fr_2806 _ (by first | omega | (dsimp only; omega))) (kp_2807 3 rfl) (kp_2807 6 rfl) (kp_2807 44 rfl) u_2802 (kp_2807 47 rfl) (kp_2807 48 rfl)
                      have k_2823 : MTd I_2803 o := by exact MTd.step k_2781 (fr_2806 _ (by first | omega | (dsimp only; omega))) (fr_2806 _ (by first | omega | (dsimp only; omega))) u_2801 (by omega)
                      refine y_Model_next hok hw ra hz16 hz17 hz18 hz19 (by first | omega | (intro h; omega) | exact Or.inl rfl | exact Or.inr rfl) hR_2805 (fun I_2833 L_2834 hR_2835 fr_2836 kp_2837 u_2825 u_2826 u_2827 u_2828 u_2829 u_2830 u_2831 u_2832 => ⟨I_2833, L_2834, rfl, rfl, ?_⟩)
                      have hf_2838 : Fm (fun c => c = o ∨ (o + 30 ≤ c ∧ c < o + 34)) I0 I_2833 := hf_2808.call fr_2836 (fun c hc => by first | exact hc | (dsimp only at hc ⊢; omega) | omega)
                      have t_2839 : (I_2833 o 3).toInt = (I_2803 o 3).toInt := by rw [kp_2837 3 rfl]
                      have t_2840 : (I_2833 o 4).toInt = (I_2803 o 4).toInt := by rw [kp_2837 4 rfl]
                      have g_2841 : (0 : Int) ≤ (I_2833 o 6).toInt ∧ (I_2833 o 6).toInt ≤ 1600 := hR_2835.at0 ra 6 (by decide)
                      have g_2842 : (0 : Int) ≤ (I_2833 o 7).toInt ∧ (I_2833 o 7).toInt ≤ 1601 := hR_2835.at0 ra 7 (by decide)
                      have g_2843 : (0 : Int) ≤ (I_2833 o 8).toInt ∧ (I_2833 o 8).toInt ≤ 6 := hR_2835.at0 ra 8 (by decide)
                      have t_2844 : (I_2833 o 44).toInt = (I_2803 o 44).toInt := by rw [kp_2837 44 rfl]
                      have t_2845 : (I_2833 o 45).toInt = (I_2803 o 45).toInt := by rw [kp_2837 45 rfl]
                      have t_2846 : (I_2833 o 47).toInt = (I_2803 o 47).toInt := by rw [kp_2837 47 rfl]
                      have t_2847 : (I_2833 o 48).toInt = (I_2803 o 48).toInt := by rw [kp_2837 48 rfl]
                      have t_2848 : (I_2833 o 46).toInt = (I_2803 o 46).toInt := by rw [kp_2837 46 rfl]
                      have k_2849 : MTd I_2833 o := k_2823.fr (fr_2836 _ (by first | omega | (dsimp only; omega))) (fr_2836 _ (by first | omega | (dsimp only; omega))) (fr_2836 _ (by first | omega | (dsimp only; omega)))
                      have ms := u_2828 (by omega)
                      have k_2850 : EX 0 0 0 f0 0 I_2833 o := by exact EX.nx k_2822 (fr_2836 _ (by first | omega | (dsimp only; omega))) (fr_2836 _ (by first | omega | (dsimp only; omega))) (fr_2836 _ (by first | omega | (dsimp only; omega))) (fr_2836 _ (by first | omega | (dsimp only; omega))) (fr_2836 _ (by first | omega | (dsimp only; omega))) (kp_2837 3 rfl) (kp_2837 44 rfl) (kp_2837 45 rfl) (kp_2837 47 rfl) (kp_2837 48 rfl) (by omega) (by omega)
                      exact (hp _ _ _ hR_2835 hf_2838 (Or.inl rfl) (by first | omega | (intro h; omega) | exact Or.inl rfl | exact Or.inr rfl) (by first | omega | (intro h; omega) | exact Or.inl rfl | exact Or.inr rfl) (by first | omega | (intro h; omega) | exact Or.inl rfl | exact Or.inr rfl) (by first | omega | (intro h; omega) | exact Or.inl rfl | exact Or.inr rfl) (by first | omega | (intro h; omega) | exact Or.inl rfl | exact Or.inr rfl) (by first | (intro h; exfalso; omega) | exact fun _ => (False.elim (by omega)) | exact fun _ => k_2850) k_2849 u_2831 u_2832)
                    · have d_2851 := iEq c_2796
                      refine y_Model_step hok hw ra hz55 (by first | omega | (intro h; omega) | exact Or.inl rfl | exact Or.inr rfl) (by first | omega | (intro h; omega) | exact Or.inl rfl | exact Or.inr rfl) hR_2767 (fun I_2855 L_2856 hR_2857 fr_2858 kp_2859 u_2853 u_2854 => ⟨I_2855, L_2856, rfl, rfl, ?_⟩)
                      have hf_2860 : Fm (fun c => c = o ∨ (o + 30 ≤ c ∧ c < o + 34)) I0 I_2855 := hf_2768.call fr_2858 (fun c hc => by first | exact hc | (dsimp only at hc ⊢; omega) | omega)
                      have t_2861 : (I_2855 o 3).toInt = (I_2765 o 3).toInt := by rw [kp_2859 3 rfl]
                      have t_2862 : (I_2855 o 4).toInt = (I_2765 o 4).toInt := by rw [kp_2859 4 rfl]
                      have t_2863 : (I_2855 o 6).toInt = (I_2765 o 6).toInt := by rw [kp_2859 6 rfl]
                      have t_2864 : (I_2855 o 7).toInt = (I_2765 o 7).toInt := by rw [kp_2859 7 rfl]
                      have t_2865 : (I_2855 o 8).toInt = (I_2765 o 8).toInt := by rw [kp_2859 8 rfl]
                      have t_2866 : (I_2855 o 9).toInt = (I_2765 o 9).toInt := by rw [kp_2859 9 rfl]
                      have t_2867 : (I_2855 o 44).toInt = (I_2765 o 44).toInt := by rw [kp_2859 44 rfl]
                      have g_2868 : (0 : Int) ≤ (I_2855 o 45).toInt ∧ (I_2855 o 45).toInt ≤ 700 := hR_2857.at0 ra 45 (by decide)
                      have t_2869 : (I_2855 o 47).toInt = (I_2765 o 47).toInt := by rw [kp_2859 47 rfl]
                      have t_2870 : (I_2855 o 48).toInt = (I_2765 o 48).toInt := by rw [kp_2859 48 rfl]
                      have t_2871 : (I_2855 o 46).toInt = (I_2765 o 46).toInt := by rw [kp_2859 46 rfl]
                      have k_2872 : MPo I_2855 o := k_2782.fr (kp_2859 8 rfl) (kp_2859 9 rfl)
                      have k_2873 : MTk I_2855 o := k_2783.fr (kp_2859 6 rfl) (kp_2859 7 rfl) (kp_2859 8 rfl)
                      have tk := k_2873.2 (by omega)
                      have k_2874 : EX 0 0 1 f0 0 I_2855 o := by exact EX.step1 k_2780 (by first | exact u_2716 (by omega) | (unfold isT; decide)) (by omega) (fr_2858 _ (by first | omega | (dsimp only; omega))) (fr_2858 _ (by first | omega | (dsimp only; omega))) u_2853 (fr_2858 _ (by first | omega | (dsimp only; omega))) (fr_2858 _ (by first | omega | (dsimp only; omega))) (kp_2859 3 rfl) (kp_2859 6 rfl) (kp_2859 44 rfl) u_2854 (kp_2859 47 rfl) (kp_2859 48 rfl)
                      have k_2875 : MTd I_2855 o := by exact MTd.step k_2781 (fr_2858 _ (by first | omega | (dsimp only; omega))) (fr_2858 _ (by first | omega | (dsimp only; omega))) u_2853 (by omega)
                      refine y_Model_next hok hw ra hz16 hz17 hz18 hz19 (by first | omega | (intro h; omega) | exact Or.inl rfl | exact Or.inr rfl) hR_2857 (fun I_2885 L_2886 hR_2887 fr_2888 kp_2889 u_2877 u_2878 u_2879 u_2880 u_2881 u_2882 u_2883 u_2884 => ⟨I_2885, L_2886, rfl, rfl, ?_⟩)
                      have hf_2890 : Fm (fun c => c = o ∨ (o + 30 ≤ c ∧ c < o + 34)) I0 I_2885 := hf_2860.call fr_2888 (fun c hc => by first | exact hc | (dsimp only at hc ⊢; omega) | omega)
                      have t_2891 : (I_2885 o 3).toInt = (I_2855 o 3).toInt := by rw [kp_2889 3 rfl]
                      have t_2892 : (I_2885 o 4).toInt = (I_2855 o 4).toInt := by rw [kp_2889 4 rfl]
                      have g_2893 : (0 : Int) ≤ (I_2885 o 6).toInt ∧ (I_2885 o 6).toInt ≤ 1600 := hR_2887.at0 ra 6 (by decide)
                      have g_2894 : (0 : Int) ≤ (I_2885 o 7).toInt ∧ (I_2885 o 7).toInt ≤ 1601 := hR_2887.at0 ra 7 (by decide)
                      have g_2895 : (0 : Int) ≤ (I_2885 o 8).toInt ∧ (I_2885 o 8).toInt ≤ 6 := hR_2887.at0 ra 8 (by decide)
                      have t_2896 : (I_2885 o 44).toInt = (I_2855 o 44).toInt := by rw [kp_2889 44 rfl]
                      have t_2897 : (I_2885 o 45).toInt = (I_2855 o 45).toInt := by rw [kp_2889 45 rfl]
                      have t_2898 : (I_2885 o 47).toInt = (I_2855 o 47).toInt := by rw [kp_2889 47 rfl]
                      have t_2899 : (I_2885 o 48).toInt = (I_2855 o 48).toInt := by rw [kp_2889 48 rfl]
                      have t_2900 : (I_2885 o 46).toInt = (I_2855 o 46).toInt := by rw [kp_2889 46 rfl]
                      have k_2901 : MTd I_2885 o := k_2875.fr (fr_2888 _ (by first | omega | (dsimp only; omega))) (fr_2888 _ (by first | omega | (dsimp only; omega))) (fr_2888 _ (by first | omega | (dsimp only; omega)))
                      have ms := u_2880 (by omega)
                      have k_2902 : EX 0 0 0 f0 0 I_2885 o := by exact EX.nx k_2874 (fr_2888 _ (by first | omega | (dsimp only; omega))) (fr_2888 _ (by first | omega | (dsimp only; omega))) (fr_2888 _ (by first | omega | (dsimp only; omega))) (fr_2888 _ (by first | omega | (dsimp only; omega))) (fr_2888 _ (by first | omega | (dsimp only; omega))) (kp_2889 3 rfl) (kp_2889 44 rfl) (kp_2889 45 rfl) (kp_2889 47 rfl) (kp_2889 48 rfl) (by omega) (by omega)
                      exact (hp _ _ _ hR_2887 hf_2890 (Or.inl rfl) (by first | omega | (intro h; omega) | exact Or.inl rfl | exact Or.inr rfl) (by first | omega | (intro h; omega) | exact Or.inl rfl | exact Or.inr rfl) (by first | omega | (intro h; omega) | exact Or.inl rfl | exact Or.inr rfl) (by first | omega | (intro h; omega) | exact Or.inl rfl | exact Or.inr rfl) (by first | omega | (intro h; omega) | exact Or.inl rfl | exact Or.inr rfl) (by first | (intro h; exfalso; omega) | exact fun _ => (False.elim (by omega)) | exact fun _ => k_2902) k_2901 u_2883 u_2884)
                  · have d_2903 := iEq c_2792
                    unfold fModel_unit_228
                    have l_2904 : (78 : Int32).toInt = 78 := rfl
                    refine ⟨fun c_2905 => ?_, fun c_2905 => ?_⟩
                    · have d_2906 := iNe c_2905
                      have i_2907 := u_2716 (by omega)
                      have i_2908 := u_2717 (by omega)
                      exfalso; omega
                    · have d_2909 := iEq c_2905
                      refine y_Model_step hok hw ra hz55 (by first | omega | (intro h; omega) | exact Or.inl rfl | exact Or.inr rfl) (by first | omega | (intro h; omega) | exact Or.inl rfl | exact Or.inr rfl) hR_2767 (fun I_2913 L_2914 hR_2915 fr_2916 kp_2917 u_2911 u_2912 => ⟨I_2913, L_2914, rfl, rfl, ?_⟩)
                      have hf_2918 : Fm (fun c => c = o ∨ (o + 30 ≤ c ∧ c < o + 34)) I0 I_2913 := hf_2768.call fr_2916 (fun c hc => by first | exact hc | (dsimp only at hc ⊢; omega) | omega)
                      have t_2919 : (I_2913 o 3).toInt = (I_2765 o 3).toInt := by rw [kp_2917 3 rfl]
                      have t_2920 : (I_2913 o 4).toInt = (I_2765 o 4).toInt := by rw [kp_2917 4 rfl]
                      have t_2921 : (I_2913 o 6).toInt = (I_2765 o 6).toInt := by rw [kp_2917 6 rfl]
                      have t_2922 : (I_2913 o 7).toInt = (I_2765 o 7).toInt := by rw [kp_2917 7 rfl]
                      have t_2923 : (I_2913 o 8).toInt = (I_2765 o 8).toInt := by rw [kp_2917 8 rfl]
                      have t_2924 : (I_2913 o 9).toInt = (I_2765 o 9).toInt := by rw [kp_2917 9 rfl]
                      have t_2925 : (I_2913 o 44).toInt = (I_2765 o 44).toInt := by rw [kp_2917 44 rfl]
                      have g_2926 : (0 : Int) ≤ (I_2913 o 45).toInt ∧ (I_2913 o 45).toInt ≤ 700 := hR_2915.at0 ra 45 (by decide)
                      have t_2927 : (I_2913 o 47).toInt = (I_2765 o 47).toInt := by rw [kp_2917 47 rfl]
                      have t_2928 : (I_2913 o 48).toInt = (I_2765 o 48).toInt := by rw [kp_2917 48 rfl]
                      have t_2929 : (I_2913 o 46).toInt = (I_2765 o 46).toInt := by rw [kp_2917 46 rfl]
                      have k_2930 : MPo I_2913 o := k_2782.fr (kp_2917 8 rfl) (kp_2917 9 rfl)
                      have k_2931 : MTk I_2913 o := k_2783.fr (kp_2917 6 rfl) (kp_2917 7 rfl) (kp_2917 8 rfl)
                      have tk := k_2931.2 (by omega)
                      have k_2932 : EX 0 0 1 f0 0 I_2913 o := by exact EX.step1 k_2780 (by first | exact u_2716 (by omega) | (unfold isT; decide)) (by omega) (fr_2916 _ (by first | omega | (dsimp only; omega))) (fr_2916 _ (by first | omega | (dsimp only; omega))) u_2911 (fr_2916 _ (by first | omega | (dsimp only; omega))) (fr_2916 _ (by first | omega | (dsimp only; omega))) (kp_2917 3 rfl) (kp_2917 6 rfl) (kp_2917 44 rfl) u_2912 (kp_2917 47 rfl) (kp_2917 48 rfl)
                      have k_2933 : MTd I_2913 o := by exact MTd.step k_2781 (fr_2916 _ (by first | omega | (dsimp only; omega))) (fr_2916 _ (by first | omega | (dsimp only; omega))) u_2911 (by omega)
                      refine y_Model_next hok hw ra hz16 hz17 hz18 hz19 (by first | omega | (intro h; omega) | exact Or.inl rfl | exact Or.inr rfl) hR_2915 (fun I_2943 L_2944 hR_2945 fr_2946 kp_2947 u_2935 u_2936 u_2937 u_2938 u_2939 u_2940 u_2941 u_2942 => ⟨I_2943, L_2944, rfl, rfl, ?_⟩)
                      have hf_2948 : Fm (fun c => c = o ∨ (o + 30 ≤ c ∧ c < o + 34)) I0 I_2943 := hf_2918.call fr_2946 (fun c hc => by first | exact hc | (dsimp only at hc ⊢; omega) | omega)
                      have t_2949 : (I_2943 o 3).toInt = (I_2913 o 3).toInt := by rw [kp_2947 3 rfl]
                      have t_2950 : (I_2943 o 4).toInt = (I_2913 o 4).toInt := by rw [kp_2947 4 rfl]
                      have g_2951 : (0 : Int) ≤ (I_2943 o 6).toInt ∧ (I_2943 o 6).toInt ≤ 1600 := hR_2945.at0 ra 6 (by decide)
                      have g_2952 : (0 : Int) ≤ (I_2943 o 7).toInt ∧ (I_2943 o 7).toInt ≤ 1601 := hR_2945.at0 ra 7 (by decide)
                      have g_2953 : (0 : Int) ≤ (I_2943 o 8).toInt ∧ (I_2943 o 8).toInt ≤ 6 := hR_2945.at0 ra 8 (by decide)
                      have t_2954 : (I_2943 o 44).toInt = (I_2913 o 44).toInt := by rw [kp_2947 44 rfl]
                      have t_2955 : (I_2943 o 45).toInt = (I_2913 o 45).toInt := by rw [kp_2947 45 rfl]
                      have t_2956 : (I_2943 o 47).toInt = (I_2913 o 47).toInt := by rw [kp_2947 47 rfl]
                      have t_2957 : (I_2943 o 48).toInt = (I_2913 o 48).toInt := by rw [kp_2947 48 rfl]
                      have t_2958 : (I_2943 o 46).toInt = (I_2913 o 46).toInt := by rw [kp_2947 46 rfl]
                      have k_2959 : MTd I_2943 o := k_2933.fr (fr_2946 _ (by first | omega | (dsimp only; omega))) (fr_2946 _ (by first | omega | (dsimp only; omega))) (fr_2946 _ (by first | omega | (dsimp only; omega)))
                      have ms := u_2938 (by omega)
                      have k_2960 : EX 0 0 0 f0 0 I_2943 o := by exact EX.nx k_2932 (fr_2946 _ (by first | omega | (dsimp only; omega))) (fr_2946 _ (by first | omega | (dsimp only; omega))) (fr_2946 _ (by first | omega | (dsimp only; omega))) (fr_2946 _ (by first | omega | (dsimp only; omega))) (fr_2946 _ (by first | omega | (dsimp only; omega))) (kp_2947 3 rfl) (kp_2947 44 rfl) (kp_2947 45 rfl) (kp_2947 47 rfl) (kp_2947 48 rfl) (by omega) (by omega)
                      exact (hp _ _ _ hR_2945 hf_2948 (Or.inl rfl) (by first | omega | (intro h; omega) | exact Or.inl rfl | exact Or.inr rfl) (by first | omega | (intro h; omega) | exact Or.inl rfl | exact Or.inr rfl) (by first | omega | (intro h; omega) | exact Or.inl rfl | exact Or.inr rfl) (by first | omega | (intro h; omega) | exact Or.inl rfl | exact Or.inr rfl) (by first | omega | (intro h; omega) | exact Or.inl rfl | exact Or.inr rfl) (by first | (intro h; exfalso; omega) | exact fun _ => (False.elim (by omega)) | exact fun _ => k_2960) k_2959 u_2941 u_2942)
                · have d_2961 := iNe c_2790
                  have i_2962 := u_2787 (by omega)
                  have i_2963 := u_2788 (by omega)
                  have g_2964 : (0 : Int) ≤ (I_2765 o 47).toInt ∧ (I_2765 o 47).toInt ≤ 7 := hR_2767.at0 ra 47 (by decide)
                  refine ⟨fun c_2965 => ?_, fun c_2965 => ?_⟩
                  · have d_2966 := iNe c_2965
                    refine y_Model_isGood hok hw ra hR_2767 (fun r_2967 u_2968 u_2969 u_2970 => ⟨r_2967, I_2765, L_2720, rfl, rfl, ?_⟩)
                    have b_2971 : 0 ≤ r_2967.toInt ∧ r_2967.toInt ≤ 1 := u_2968.rg
                    refine ⟨fun c_2972 => ?_, fun c_2972 => ?_⟩
                    · have d_2973 := iNe c_2972
                      have i_2974 := u_2969 (by omega)
                      refine y_Model_pile hok hw ra hz58 (by first | omega | (intro h; omega) | exact Or.inl rfl | exact Or.inr rfl) (by first | omega | (intro h; omega) | exact Or.inl rfl | exact Or.inr rfl) hR_2767 (fun I_2979 L_2980 hR_2981 fr_2982 kp_2983 u_2976 u_2977 u_2978 => ⟨I_2979, L_2980, rfl, rfl, ?_⟩)
                      have hf_2984 : Fm (fun c => c = o ∨ (o + 30 ≤ c ∧ c < o + 34)) I0 I_2979 := hf_2768.call fr_2982 (fun c hc => by first | exact hc | (dsimp only at hc ⊢; omega) | omega)
                      have t_2985 : (I_2979 o 3).toInt = (I_2765 o 3).toInt := by rw [kp_2983 3 rfl]
                      have t_2986 : (I_2979 o 4).toInt = (I_2765 o 4).toInt := by rw [kp_2983 4 rfl]
                      have t_2987 : (I_2979 o 6).toInt = (I_2765 o 6).toInt := by rw [kp_2983 6 rfl]
                      have t_2988 : (I_2979 o 7).toInt = (I_2765 o 7).toInt := by rw [kp_2983 7 rfl]
                      have t_2989 : (I_2979 o 8).toInt = (I_2765 o 8).toInt := by rw [kp_2983 8 rfl]
                      have t_2990 : (I_2979 o 9).toInt = (I_2765 o 9).toInt := by rw [kp_2983 9 rfl]
                      have t_2991 : (I_2979 o 44).toInt = (I_2765 o 44).toInt := by rw [kp_2983 44 rfl]
                      have t_2992 : (I_2979 o 45).toInt = (I_2765 o 45).toInt := by rw [kp_2983 45 rfl]
                      have t_2993 : (I_2979 o 47).toInt = (I_2765 o 47).toInt := by rw [kp_2983 47 rfl]
                      have g_2994 : (0 : Int) ≤ (I_2979 o 48).toInt ∧ (I_2979 o 48).toInt ≤ 80 := hR_2981.at0 ra 48 (by decide)
                      have t_2995 : (I_2979 o 46).toInt = (I_2765 o 46).toInt := by rw [kp_2983 46 rfl]
                      have k_2996 : MTd I_2979 o := k_2781.fr (fr_2982 _ (by first | omega | (dsimp only; omega))) (fr_2982 _ (by first | omega | (dsimp only; omega))) (fr_2982 _ (by first | omega | (dsimp only; omega)))
                      have k_2997 : MPo I_2979 o := k_2782.fr (kp_2983 8 rfl) (kp_2983 9 rfl)
                      have k_2998 : MTk I_2979 o := k_2783.fr (kp_2983 6 rfl) (kp_2983 7 rfl) (kp_2983 8 rfl)
                      have k_2999 : EX 0 1 1 f0 1 I_2979 o := by have z := EX.push k_2780 (v := 7) (s := 0) (dB := 1) (dO := 0) (wt' := 1) (by decide) (by decide) (by decide) (by omega) ⟨by decide, by decide⟩ ⟨fun h => absurd h (by decide), fun h => absurd h (by decide)⟩ (Or.inl rfl) (fr_2982 _ (by first | omega | (dsimp only; omega))) (fr_2982 _ (by first | omega | (dsimp only; omega))) (fr_2982 _ (by first | omega | (dsimp only; omega))) u_2976 u_2977 (kp_2983 3 rfl) (kp_2983 6 rfl) (kp_2983 44 rfl) (kp_2983 45 rfl) (kp_2983 47 rfl) u_2978; exact EX.chg (b' := 1) z rfl rfl rfl rfl rfl rfl rfl rfl rfl rfl (by omega) z.pl
                      have g_3000 : (0 : Int) ≤ (I_2979 o 47).toInt ∧ (I_2979 o 47).toInt ≤ 7 := hR_2981.at0 ra 47 (by decide)
                      have a_3001 : ((I_2979 o 47) + 1).toInt = (I_2979 o 47).toInt + (1 : Int32).toInt := tAdd (by omega) (by omega)
                      refine fun I_3002 e_3003 => ?_
                      have hR_3004 : RI R I_3002 := hR_2981.up0 (k := 47) ra (by decide) (Or.inr hz57) e_3003 (show (0 : Int) ≤ ((I_2979 o 47) + 1).toInt by omega) (show ((I_2979 o 47) + 1).toInt ≤ (7 : Int) by omega)
                      have hf_3005 : Fm (fun c => c = o ∨ (o + 30 ≤ c ∧ c < o + 34)) I0 I_3002 := hf_2984.set (by first | rfl | omega | (dsimp only; omega)) e_3003
                      have t_3006 : (I_3002 o 3).toInt = (I_2979 o 3).toInt := by rw [← e_3003, q_u_k (by decide)]
                      have t_3007 : (I_3002 o 4).toInt = (I_2979 o 4).toInt := by rw [← e_3003, q_u_k (by decide)]
                      have t_3008 : (I_3002 o 6).toInt = (I_2979 o 6).toInt := by rw [← e_3003, q_u_k (by decide)]
                      have t_3009 : (I_3002 o 7).toInt = (I_2979 o 7).toInt := by rw [← e_3003, q_u_k (by decide)]
                      have t_3010 : (I_3002 o 8).toInt = (I_2979 o 8).toInt := by rw [← e_3003, q_u_k (by decide)]
                      have t_3011 : (I_3002 o 9).toInt = (I_2979 o 9).toInt := by rw [← e_3003, q_u_k (by decide)]
                      have t_3012 : (I_3002 o 44).toInt = (I_2979 o 44).toInt := by rw [← e_3003, q_u_k (by decide)]
                      have t_3013 : (I_3002 o 45).toInt = (I_2979 o 45).toInt := by rw [← e_3003, q_u_k (by decide)]
                      have t_3014 : (I_3002 o 47).toInt = ((I_2979 o 47) + 1).toInt := by rw [← e_3003, q_u_at]
                      have t_3015 : (I_3002 o 48).toInt = (I_2979 o 48).toInt := by rw [← e_3003, q_u_k (by decide)]
                      have t_3016 : (I_3002 o 46).toInt = (I_2979 o 46).toInt := by rw [← e_3003, q_u_k (by decide)]
                      have k_3017 : MTd I_3002 o := k_2996.fr (by rw [← e_3003]; exact q_u_ne (by omega)) (by rw [← e_3003]; exact q_u_ne (by omega)) (by rw [← e_3003]; exact q_u_ne (by omega))
                      have k_3018 : MPo I_3002 o := k_2997.fr (by rw [← e_3003, q_u_k (by decide)]) (by rw [← e_3003, q_u_k (by decide)])
                      have k_3019 : MTk I_3002 o := k_2998.fr (by rw [← e_3003, q_u_k (by decide)]) (by rw [← e_3003, q_u_k (by decide)]) (by rw [← e_3003, q_u_k (by decide)])
                      have tk := k_3019.2 (by omega)
                      have k_3021 : EX 0 0 1 f0 1 I_3002 o := by exact EX.put47 k_2999 e_3003 (by omega)
                      refine y_Model_next hok hw ra hz16 hz17 hz18 hz19 (by first | omega | (intro h; omega) | exact Or.inl rfl | exact Or.inr rfl) hR_3004 (fun I_3031 L_3032 hR_3033 fr_3034 kp_3035 u_3023 u_3024 u_3025 u_3026 u_3027 u_3028 u_3029 u_3030 => ⟨I_3031, L_3032, rfl, rfl, ?_⟩)
                      have hf_3036 : Fm (fun c => c = o ∨ (o + 30 ≤ c ∧ c < o + 34)) I0 I_3031 := hf_3005.call fr_3034 (fun c hc => by first | exact hc | (dsimp only at hc ⊢; omega) | omega)
                      have t_3037 : (I_3031 o 3).toInt = (I_3002 o 3).toInt := by rw [kp_3035 3 rfl]
                      have t_3038 : (I_3031 o 4).toInt = (I_3002 o 4).toInt := by rw [kp_3035 4 rfl]
                      have g_3039 : (0 : Int) ≤ (I_3031 o 6).toInt ∧ (I_3031 o 6).toInt ≤ 1600 := hR_3033.at0 ra 6 (by decide)
                      have g_3040 : (0 : Int) ≤ (I_3031 o 7).toInt ∧ (I_3031 o 7).toInt ≤ 1601 := hR_3033.at0 ra 7 (by decide)
                      have g_3041 : (0 : Int) ≤ (I_3031 o 8).toInt ∧ (I_3031 o 8).toInt ≤ 6 := hR_3033.at0 ra 8 (by decide)
                      have t_3042 : (I_3031 o 44).toInt = (I_3002 o 44).toInt := by rw [kp_3035 44 rfl]
                      have t_3043 : (I_3031 o 45).toInt = (I_3002 o 45).toInt := by rw [kp_3035 45 rfl]
                      have t_3044 : (I_3031 o 47).toInt = (I_3002 o 47).toInt := by rw [kp_3035 47 rfl]
                      have t_3045 : (I_3031 o 48).toInt = (I_3002 o 48).toInt := by rw [kp_3035 48 rfl]
                      have t_3046 : (I_3031 o 46).toInt = (I_3002 o 46).toInt := by rw [kp_3035 46 rfl]
                      have k_3047 : MTd I_3031 o := k_3017.fr (fr_3034 _ (by first | omega | (dsimp only; omega))) (fr_3034 _ (by first | omega | (dsimp only; omega))) (fr_3034 _ (by first | omega | (dsimp only; omega)))
                      have ms := u_3026 (by omega)
                      have k_3048 : EX 0 0 0 f0 1 I_3031 o := by exact EX.nx k_3021 (fr_3034 _ (by first | omega | (dsimp only; omega))) (fr_3034 _ (by first | omega | (dsimp only; omega))) (fr_3034 _ (by first | omega | (dsimp only; omega))) (fr_3034 _ (by first | omega | (dsimp only; omega))) (fr_3034 _ (by first | omega | (dsimp only; omega))) (kp_3035 3 rfl) (kp_3035 44 rfl) (kp_3035 45 rfl) (kp_3035 47 rfl) (kp_3035 48 rfl) (by omega) (by omega)
                      exact (hp _ _ _ hR_3033 hf_3036 (Or.inr rfl) (by first | omega | (intro h; omega) | exact Or.inl rfl | exact Or.inr rfl) (by first | omega | (intro h; omega) | exact Or.inl rfl | exact Or.inr rfl) (by first | omega | (intro h; omega) | exact Or.inl rfl | exact Or.inr rfl) (by first | omega | (intro h; omega) | exact Or.inl rfl | exact Or.inr rfl) (by first | omega | (intro h; omega) | exact Or.inl rfl | exact Or.inr rfl) (by first | (intro h; exfalso; omega) | exact fun _ => k_3048 | exact fun _ => (False.elim (by omega))) k_3047 u_3029 u_3030)
                    · have d_3049 := iEq c_2972
                      have i_3050 := u_2970 (by omega)
                      exact (hp _ _ _ hR_2767 hf_2768 (Or.inr rfl) (by first | omega | (intro h; omega) | exact Or.inl rfl | exact Or.inr rfl) (by first | omega | (intro h; omega) | exact Or.inl rfl | exact Or.inr rfl) (by first | omega | (intro h; omega) | exact Or.inl rfl | exact Or.inr rfl) (by first | omega | (intro h; omega) | exact Or.inl rfl | exact Or.inr rfl) (by first | omega | (intro h; omega) | exact Or.inl rfl | exact Or.inr rfl) (by first | (intro h; exfalso; omega) | exact fun _ => k_2780 | exact fun _ => (False.elim (by omega))) k_2781 k_2782 k_2783)
                  · have d_3051 := iEq c_2965
                    refine y_Model_wrong hok hw ra hz14 hz15 hR_2767 (fun I_3055 L_3056 hR_3057 fr_3058 kp_3059 u_3053 u_3054 => ⟨I_3055, L_3056, rfl, rfl, ?_⟩)
                    have hf_3060 : Fm (fun c => c = o ∨ (o + 30 ≤ c ∧ c < o + 34)) I0 I_3055 := hf_2768.call fr_3058 (fun c hc => by first | exact hc | (dsimp only at hc ⊢; omega) | omega)
                    have t_3061 : (I_3055 o 3).toInt = (I_2765 o 3).toInt := by rw [kp_3059 3 rfl]
                    have g_3062 : (0 : Int) ≤ (I_3055 o 4).toInt ∧ (I_3055 o 4).toInt ≤ 5 := hR_3057.at0 ra 4 (by decide)
                    have t_3063 : (I_3055 o 6).toInt = (I_2765 o 6).toInt := by rw [kp_3059 6 rfl]
                    have t_3064 : (I_3055 o 7).toInt = (I_2765 o 7).toInt := by rw [kp_3059 7 rfl]
                    have t_3065 : (I_3055 o 8).toInt = (I_2765 o 8).toInt := by rw [kp_3059 8 rfl]
                    have t_3066 : (I_3055 o 9).toInt = (I_2765 o 9).toInt := by rw [kp_3059 9 rfl]
                    have t_3067 : (I_3055 o 44).toInt = (I_2765 o 44).toInt := by rw [kp_3059 44 rfl]
                    have t_3068 : (I_3055 o 45).toInt = (I_2765 o 45).toInt := by rw [kp_3059 45 rfl]
                    have t_3069 : (I_3055 o 47).toInt = (I_2765 o 47).toInt := by rw [kp_3059 47 rfl]
                    have t_3070 : (I_3055 o 48).toInt = (I_2765 o 48).toInt := by rw [kp_3059 48 rfl]
                    have t_3071 : (I_3055 o 46).toInt = (I_2765 o 46).toInt := by rw [kp_3059 46 rfl]
                    have k_3072 : EX 0 0 0 f0 1 I_3055 o := k_2780.fr (fr_3058 _ (by first | omega | (dsimp only; omega))) (fr_3058 _ (by first | omega | (dsimp only; omega))) (fr_3058 _ (by first | omega | (dsimp only; omega))) (fr_3058 _ (by first | omega | (dsimp only; omega))) (fr_3058 _ (by first | omega | (dsimp only; omega))) (kp_3059 3 rfl) (kp_3059 6 rfl) (kp_3059 44 rfl) (kp_3059 45 rfl) (kp_3059 47 rfl) (kp_3059 48 rfl)
                    have k_3073 : MTd I_3055 o := k_2781.fr (fr_3058 _ (by first | omega | (dsimp only; omega))) (fr_3058 _ (by first | omega | (dsimp only; omega))) (fr_3058 _ (by first | omega | (dsimp only; omega)))
                    have k_3074 : MPo I_3055 o := k_2782.fr (kp_3059 8 rfl) (kp_3059 9 rfl)
                    have k_3075 : MTk I_3055 o := k_2783.fr (kp_3059 6 rfl) (kp_3059 7 rfl) (kp_3059 8 rfl)
                    refine y_Model_isGood hok hw ra hR_3057 (fun r_3076 u_3077 u_3078 u_3079 => ⟨r_3076, I_3055, L_3056, rfl, rfl, ?_⟩)
                    have b_3080 : 0 ≤ r_3076.toInt ∧ r_3076.toInt ≤ 1 := u_3077.rg
                    refine ⟨fun c_3081 => ?_, fun c_3081 => ?_⟩
                    · have d_3082 := iNe c_3081
                      have i_3083 := u_3078 (by omega)
                      refine y_Model_pile hok hw ra hz58 (by first | omega | (intro h; omega) | exact Or.inl rfl | exact Or.inr rfl) (by first | omega | (intro h; omega) | exact Or.inl rfl | exact Or.inr rfl) hR_3057 (fun I_3088 L_3089 hR_3090 fr_3091 kp_3092 u_3085 u_3086 u_3087 => ⟨I_3088, L_3089, rfl, rfl, ?_⟩)
                      have hf_3093 : Fm (fun c => c = o ∨ (o + 30 ≤ c ∧ c < o + 34)) I0 I_3088 := hf_3060.call fr_3091 (fun c hc => by first | exact hc | (dsimp only at hc ⊢; omega) | omega)
                      have t_3094 : (I_3088 o 3).toInt = (I_3055 o 3).toInt := by rw [kp_3092 3 rfl]
                      have t_3095 : (I_3088 o 4).toInt = (I_3055 o 4).toInt := by rw [kp_3092 4 rfl]
                      have t_3096 : (I_3088 o 6).toInt = (I_3055 o 6).toInt := by rw [kp_3092 6 rfl]
                      have t_3097 : (I_3088 o 7).toInt = (I_3055 o 7).toInt := by rw [kp_3092 7 rfl]
                      have t_3098 : (I_3088 o 8).toInt = (I_3055 o 8).toInt := by rw [kp_3092 8 rfl]
                      have t_3099 : (I_3088 o 9).toInt = (I_3055 o 9).toInt := by rw [kp_3092 9 rfl]
                      have t_3100 : (I_3088 o 44).toInt = (I_3055 o 44).toInt := by rw [kp_3092 44 rfl]
                      have t_3101 : (I_3088 o 45).toInt = (I_3055 o 45).toInt := by rw [kp_3092 45 rfl]
                      have t_3102 : (I_3088 o 47).toInt = (I_3055 o 47).toInt := by rw [kp_3092 47 rfl]
                      have g_3103 : (0 : Int) ≤ (I_3088 o 48).toInt ∧ (I_3088 o 48).toInt ≤ 80 := hR_3090.at0 ra 48 (by decide)
                      have t_3104 : (I_3088 o 46).toInt = (I_3055 o 46).toInt := by rw [kp_3092 46 rfl]
                      have k_3105 : MTd I_3088 o := k_3073.fr (fr_3091 _ (by first | omega | (dsimp only; omega))) (fr_3091 _ (by first | omega | (dsimp only; omega))) (fr_3091 _ (by first | omega | (dsimp only; omega)))
                      have k_3106 : MPo I_3088 o := k_3074.fr (kp_3092 8 rfl) (kp_3092 9 rfl)
                      have k_3107 : MTk I_3088 o := k_3075.fr (kp_3092 6 rfl) (kp_3092 7 rfl) (kp_3092 8 rfl)
                      have k_3108 : EX 0 1 1 f0 1 I_3088 o := by have z := EX.push k_3072 (v := 7) (s := 0) (dB := 1) (dO := 0) (wt' := 1) (by decide) (by decide) (by decide) (by omega) ⟨by decide, by decide⟩ ⟨fun h => absurd h (by decide), fun h => absurd h (by decide)⟩ (Or.inl rfl) (fr_3091 _ (by first | omega | (dsimp only; omega))) (fr_3091 _ (by first | omega | (dsimp only; omega))) (fr_3091 _ (by first | omega | (dsimp only; omega))) u_3085 u_3086 (kp_3092 3 rfl) (kp_3092 6 rfl) (kp_3092 44 rfl) (kp_3092 45 rfl) (kp_3092 47 rfl) u_3087; exact EX.chg (b' := 1) z rfl rfl rfl rfl rfl rfl rfl rfl rfl rfl (by omega) z.pl
                      have g_3109 : (0 : Int) ≤ (I_3088 o 47).toInt ∧ (I_3088 o 47).toInt ≤ 7 := hR_3090.at0 ra 47 (by decide)
                      have a_3110 : ((I_3088 o 47) + 1).toInt = (I_3088 o 47).toInt + (1 : Int32).toInt := tAdd (by omega) (by omega)
                      refine fun I_3111 e_3112 => ?_
                      have hR_3113 : RI R I_3111 := hR_3090.up0 (k := 47) ra (by decide) (Or.inr hz57) e_3112 (show (0 : Int) ≤ ((I_3088 o 47) + 1).toInt by omega) (show ((I_3088 o 47) + 1).toInt ≤ (7 : Int) by omega)
                      have hf_3114 : Fm (fun c => c = o ∨ (o + 30 ≤ c ∧ c < o + 34)) I0 I_3111 := hf_3093.set (by first | rfl | omega | (dsimp only; omega)) e_3112
                      have t_3115 : (I_3111 o 3).toInt = (I_3088 o 3).toInt := by rw [← e_3112, q_u_k (by decide)]
                      have t_3116 : (I_3111 o 4).toInt = (I_3088 o 4).toInt := by rw [← e_3112, q_u_k (by decide)]
                      have t_3117 : (I_3111 o 6).toInt = (I_3088 o 6).toInt := by rw [← e_3112, q_u_k (by decide)]
                      have t_3118 : (I_3111 o 7).toInt = (I_3088 o 7).toInt := by rw [← e_3112, q_u_k (by decide)]
                      have t_3119 : (I_3111 o 8).toInt = (I_3088 o 8).toInt := by rw [← e_3112, q_u_k (by decide)]
                      have t_3120 : (I_3111 o 9).toInt = (I_3088 o 9).toInt := by rw [← e_3112, q_u_k (by decide)]
                      have t_3121 : (I_3111 o 44).toInt = (I_3088 o 44).toInt := by rw [← e_3112, q_u_k (by decide)]
                      have t_3122 : (I_3111 o 45).toInt = (I_3088 o 45).toInt := by rw [← e_3112, q_u_k (by decide)]
                      have t_3123 : (I_3111 o 47).toInt = ((I_3088 o 47) + 1).toInt := by rw [← e_3112, q_u_at]
                      have t_3124 : (I_3111 o 48).toInt = (I_3088 o 48).toInt := by rw [← e_3112, q_u_k (by decide)]
                      have t_3125 : (I_3111 o 46).toInt = (I_3088 o 46).toInt := by rw [← e_3112, q_u_k (by decide)]
                      have k_3126 : MTd I_3111 o := k_3105.fr (by rw [← e_3112]; exact q_u_ne (by omega)) (by rw [← e_3112]; exact q_u_ne (by omega)) (by rw [← e_3112]; exact q_u_ne (by omega))
                      have k_3127 : MPo I_3111 o := k_3106.fr (by rw [← e_3112, q_u_k (by decide)]) (by rw [← e_3112, q_u_k (by decide)])
                      have k_3128 : MTk I_3111 o := k_3107.fr (by rw [← e_3112, q_u_k (by decide)]) (by rw [← e_3112, q_u_k (by decide)]) (by rw [← e_3112, q_u_k (by decide)])
                      have tk := k_3128.2 (by omega)
                      have k_3130 : EX 0 0 1 f0 1 I_3111 o := by exact EX.put47 k_3108 e_3112 (by omega)
                      refine y_Model_next hok hw ra hz16 hz17 hz18 hz19 (by first | omega | (intro h; omega) | exact Or.inl rfl | exact Or.inr rfl) hR_3113 (fun I_3140 L_3141 hR_3142 fr_3143 kp_3144 u_3132 u_3133 u_3134 u_3135 u_3136 u_3137 u_3138 u_3139 => ⟨I_3140, L_3141, rfl, rfl, ?_⟩)
                      have hf_3145 : Fm (fun c => c = o ∨ (o + 30 ≤ c ∧ c < o + 34)) I0 I_3140 := hf_3114.call fr_3143 (fun c hc => by first | exact hc | (dsimp only at hc ⊢; omega) | omega)
                      have t_3146 : (I_3140 o 3).toInt = (I_3111 o 3).toInt := by rw [kp_3144 3 rfl]
                      have t_3147 : (I_3140 o 4).toInt = (I_3111 o 4).toInt := by rw [kp_3144 4 rfl]
                      have g_3148 : (0 : Int) ≤ (I_3140 o 6).toInt ∧ (I_3140 o 6).toInt ≤ 1600 := hR_3142.at0 ra 6 (by decide)
                      have g_3149 : (0 : Int) ≤ (I_3140 o 7).toInt ∧ (I_3140 o 7).toInt ≤ 1601 := hR_3142.at0 ra 7 (by decide)
                      have g_3150 : (0 : Int) ≤ (I_3140 o 8).toInt ∧ (I_3140 o 8).toInt ≤ 6 := hR_3142.at0 ra 8 (by decide)
                      have t_3151 : (I_3140 o 44).toInt = (I_3111 o 44).toInt := by rw [kp_3144 44 rfl]
                      have t_3152 : (I_3140 o 45).toInt = (I_3111 o 45).toInt := by rw [kp_3144 45 rfl]
                      have t_3153 : (I_3140 o 47).toInt = (I_3111 o 47).toInt := by rw [kp_3144 47 rfl]
                      have t_3154 : (I_3140 o 48).toInt = (I_3111 o 48).toInt := by rw [kp_3144 48 rfl]
                      have t_3155 : (I_3140 o 46).toInt = (I_3111 o 46).toInt := by rw [kp_3144 46 rfl]
                      have k_3156 : MTd I_3140 o := k_3126.fr (fr_3143 _ (by first | omega | (dsimp only; omega))) (fr_3143 _ (by first | omega | (dsimp only; omega))) (fr_3143 _ (by first | omega | (dsimp only; omega)))
                      have ms := u_3135 (by omega)
                      have k_3157 : EX 0 0 0 f0 1 I_3140 o := by exact EX.nx k_3130 (fr_3143 _ (by first | omega | (dsimp only; omega))) (fr_3143 _ (by first | omega | (dsimp only; omega))) (fr_3143 _ (by first | omega | (dsimp only; omega))) (fr_3143 _ (by first | omega | (dsimp only; omega))) (fr_3143 _ (by first | omega | (dsimp only; omega))) (kp_3144 3 rfl) (kp_3144 44 rfl) (kp_3144 45 rfl) (kp_3144 47 rfl) (kp_3144 48 rfl) (by omega) (by omega)
                      exact (hp _ _ _ hR_3142 hf_3145 (Or.inr rfl) (by first | omega | (intro h; omega) | exact Or.inl rfl | exact Or.inr rfl) (by first | omega | (intro h; omega) | exact Or.inl rfl | exact Or.inr rfl) (by first | omega | (intro h; omega) | exact Or.inl rfl | exact Or.inr rfl) (by first | omega | (intro h; omega) | exact Or.inl rfl | exact Or.inr rfl) (by first | omega | (intro h; omega) | exact Or.inl rfl | exact Or.inr rfl) (by first | (intro h; exfalso; omega) | exact fun _ => k_3157 | exact fun _ => (False.elim (by omega))) k_3156 u_3138 u_3139)
                    · have d_3158 := iEq c_3081
                      have i_3159 := u_3079 (by omega)
                      exact (hp _ _ _ hR_3057 hf_3060 (Or.inr rfl) (by first | omega | (intro h; omega) | exact Or.inl rfl | exact Or.inr rfl) (by first | omega | (intro h; omega) | exact Or.inl rfl | exact Or.inr rfl) (by first | omega | (intro h; omega) | exact Or.inl rfl | exact Or.inr rfl) (by first | omega | (intro h; omega) | exact Or.inl rfl | exact Or.inr rfl) (by first | omega | (intro h; omega) | exact Or.inl rfl | exact Or.inr rfl) (by first | (intro h; exfalso; omega) | exact fun _ => k_3072 | exact fun _ => (False.elim (by omega))) k_3073 k_3074 k_3075)
              · have d_3160 := iEq c_2760
                have i_3161 := u_2758 (by omega)
                exact (hp _ _ _ hR_2721 hf_2724 (Or.inr rfl) (by first | omega | (intro h; omega) | exact Or.inl rfl | exact Or.inr rfl) (by first | omega | (intro h; omega) | exact Or.inl rfl | exact Or.inr rfl) (by first | omega | (intro h; omega) | exact Or.inl rfl | exact Or.inr rfl) (by first | omega | (intro h; omega) | exact Or.inl rfl | exact Or.inr rfl) (by first | omega | (intro h; omega) | exact Or.inl rfl | exact Or.inr rfl) (by first | (intro h; exfalso; omega) | exact fun _ => k_2735 | exact fun _ => (False.elim (by omega))) k_2736 k_2737 k_2738)
            · have d_3162 := iEq c_2753
              unfold fModel_unit_140
              refine y_Model_wrong hok hw ra hz14 hz15 hR_2721 (fun I_3166 L_3167 hR_3168 fr_3169 kp_3170 u_3164 u_3165 => ⟨I_3166, L_3167, rfl, rfl, ?_⟩)
              have hf_3171 : Fm (fun c => c = o ∨ (o + 30 ≤ c ∧ c < o + 34)) I0 I_3166 := hf_2724.call fr_3169 (fun c hc => by first | exact hc | (dsimp only at hc ⊢; omega) | omega)
              have t_3172 : (I_3166 o 3).toInt = (I_2719 o 3).toInt := by rw [kp_3170 3 rfl]
              have g_3173 : (0 : Int) ≤ (I_3166 o 4).toInt ∧ (I_3166 o 4).toInt ≤ 5 := hR_3168.at0 ra 4 (by decide)
              have t_3174 : (I_3166 o 6).toInt = (I_2719 o 6).toInt := by rw [kp_3170 6 rfl]
              have t_3175 : (I_3166 o 7).toInt = (I_2719 o 7).toInt := by rw [kp_3170 7 rfl]
              have t_3176 : (I_3166 o 8).toInt = (I_2719 o 8).toInt := by rw [kp_3170 8 rfl]
              have t_3177 : (I_3166 o 9).toInt = (I_2719 o 9).toInt := by rw [kp_3170 9 rfl]
              have t_3178 : (I_3166 o 44).toInt = (I_2719 o 44).toInt := by rw [kp_3170 44 rfl]
              have t_3179 : (I_3166 o 45).toInt = (I_2719 o 45).toInt := by rw [kp_3170 45 rfl]
              have t_3180 : (I_3166 o 47).toInt = (I_2719 o 47).toInt := by rw [kp_3170 47 rfl]
              have t_3181 : (I_3166 o 48).toInt = (I_2719 o 48).toInt := by rw [kp_3170 48 rfl]
              have t_3182 : (I_3166 o 46).toInt = (I_2719 o 46).toInt := by rw [kp_3170 46 rfl]
              have k_3183 : EX 0 0 0 f0 1 I_3166 o := k_2735.fr (fr_3169 _ (by first | omega | (dsimp only; omega))) (fr_3169 _ (by first | omega | (dsimp only; omega))) (fr_3169 _ (by first | omega | (dsimp only; omega))) (fr_3169 _ (by first | omega | (dsimp only; omega))) (fr_3169 _ (by first | omega | (dsimp only; omega))) (kp_3170 3 rfl) (kp_3170 6 rfl) (kp_3170 44 rfl) (kp_3170 45 rfl) (kp_3170 47 rfl) (kp_3170 48 rfl)
              have k_3184 : MTd I_3166 o := k_2736.fr (fr_3169 _ (by first | omega | (dsimp only; omega))) (fr_3169 _ (by first | omega | (dsimp only; omega))) (fr_3169 _ (by first | omega | (dsimp only; omega)))
              have k_3185 : MPo I_3166 o := k_2737.fr (kp_3170 8 rfl) (kp_3170 9 rfl)
              have k_3186 : MTk I_3166 o := k_2738.fr (kp_3170 6 rfl) (kp_3170 7 rfl) (kp_3170 8 rfl)
              refine y_Model_isGood hok hw ra hR_3168 (fun r_3187 u_3188 u_3189 u_3190 => ⟨r_3187, I_3166, L_3167, rfl, rfl, ?_⟩)
              have b_3191 : 0 ≤ r_3187.toInt ∧ r_3187.toInt ≤ 1 := u_3188.rg
              refine ⟨fun c_3192 => ?_, fun c_3192 => ?_⟩
              · have d_3193 := iNe c_3192
                have i_3194 := u_3189 (by omega)
                have g_3195 : (0 : Int) ≤ (I_3166 o 46).toInt ∧ (I_3166 o 46).toInt ≤ 100 := hR_3168.at0 ra 46 (by decide)
                have a_3196 : ((I_3166 o 46) + 1).toInt = (I_3166 o 46).toInt + (1 : Int32).toInt := tAdd (by omega) (by omega)
                refine fun I_3197 e_3198 => ?_
                have hR_3199 : RI R I_3197 := hR_3168.up0 (k := 46) ra (by decide) (Or.inr hz56) e_3198 (show (0 : Int) ≤ ((I_3166 o 46) + 1).toInt by omega) (show ((I_3166 o 46) + 1).toInt ≤ (100 : Int) by omega)
                have hf_3200 : Fm (fun c => c = o ∨ (o + 30 ≤ c ∧ c < o + 34)) I0 I_3197 := hf_3171.set (by first | rfl | omega | (dsimp only; omega)) e_3198
                have t_3201 : (I_3197 o 3).toInt = (I_3166 o 3).toInt := by rw [← e_3198, q_u_k (by decide)]
                have t_3202 : (I_3197 o 4).toInt = (I_3166 o 4).toInt := by rw [← e_3198, q_u_k (by decide)]
                have t_3203 : (I_3197 o 6).toInt = (I_3166 o 6).toInt := by rw [← e_3198, q_u_k (by decide)]
                have t_3204 : (I_3197 o 7).toInt = (I_3166 o 7).toInt := by rw [← e_3198, q_u_k (by decide)]
                have t_3205 : (I_3197 o 8).toInt = (I_3166 o 8).toInt := by rw [← e_3198, q_u_k (by decide)]
                have t_3206 : (I_3197 o 9).toInt = (I_3166 o 9).toInt := by rw [← e_3198, q_u_k (by decide)]
                have t_3207 : (I_3197 o 44).toInt = (I_3166 o 44).toInt := by rw [← e_3198, q_u_k (by decide)]
                have t_3208 : (I_3197 o 45).toInt = (I_3166 o 45).toInt := by rw [← e_3198, q_u_k (by decide)]
                have t_3209 : (I_3197 o 47).toInt = (I_3166 o 47).toInt := by rw [← e_3198, q_u_k (by decide)]
                have t_3210 : (I_3197 o 48).toInt = (I_3166 o 48).toInt := by rw [← e_3198, q_u_k (by decide)]
                have t_3211 : (I_3197 o 46).toInt = ((I_3166 o 46) + 1).toInt := by rw [← e_3198, q_u_at]
                have k_3212 : EX 0 0 0 f0 1 I_3197 o := k_3183.fr (by rw [← e_3198]; exact q_u_ne (by omega)) (by rw [← e_3198]; exact q_u_ne (by omega)) (by rw [← e_3198]; exact q_u_ne (by omega)) (by rw [← e_3198]; exact q_u_ne (by omega)) (by rw [← e_3198]; exact q_u_ne (by omega)) (by rw [← e_3198, q_u_k (by decide)]) (by rw [← e_3198, q_u_k (by decide)]) (by rw [← e_3198, q_u_k (by decide)]) (by rw [← e_3198, q_u_k (by decide)]) (by rw [← e_3198, q_u_k (by decide)]) (by rw [← e_3198, q_u_k (by decide)])
                have k_3213 : MTd I_3197 o := k_3184.fr (by rw [← e_3198]; exact q_u_ne (by omega)) (by rw [← e_3198]; exact q_u_ne (by omega)) (by rw [← e_3198]; exact q_u_ne (by omega))
                have k_3214 : MPo I_3197 o := k_3185.fr (by rw [← e_3198, q_u_k (by decide)]) (by rw [← e_3198, q_u_k (by decide)])
                have k_3215 : MTk I_3197 o := k_3186.fr (by rw [← e_3198, q_u_k (by decide)]) (by rw [← e_3198, q_u_k (by decide)]) (by rw [← e_3198, q_u_k (by decide)])
                have l_3216 : (40 : Int32).toInt = 40 := rfl
                refine y_Model_is hok hw ra hR_3199 (fun r_3217 u_3218 u_3219 u_3220 => ⟨r_3217, I_3197, L_3167, rfl, rfl, ?_⟩)
                have b_3221 : 0 ≤ r_3217.toInt ∧ r_3217.toInt ≤ 1 := u_3218.rg
                refine ⟨fun c_3222 => ?_, fun c_3222 => ?_⟩
                · have d_3223 := iEq c_3222
                  have cd := k_3212.cod
                  have tk := k_3215.2 (by omega)
                  refine ⟨fun c_3224 => ?_, fun c_3224 => ?_⟩
                  · have d_3225 := iNe c_3224
                    have i_3226 := u_2716 (by omega)
                    have i_3227 := u_2717 (by omega)
                    unfold fModel_unit_228
                    refine ⟨fun c_3228 => ?_, fun c_3228 => ?_⟩
                    · have d_3229 := iNe c_3228
                      have i_3230 := u_2716 (by omega)
                      have i_3231 := u_2717 (by omega)
                      refine y_Model_step hok hw ra hz55 (by first | omega | (intro h; omega) | exact Or.inl rfl | exact Or.inr rfl) (by first | omega | (intro h; omega) | exact Or.inl rfl | exact Or.inr rfl) hR_3199 (fun I_3235 L_3236 hR_3237 fr_3238 kp_3239 u_3233 u_3234 => ⟨I_3235, L_3236, rfl, rfl, ?_⟩)
                      have hf_3240 : Fm (fun c => c = o ∨ (o + 30 ≤ c ∧ c < o + 34)) I0 I_3235 := hf_3200.call fr_3238 (fun c hc => by first | exact hc | (dsimp only at hc ⊢; omega) | omega)
                      have t_3241 : (I_3235 o 3).toInt = (I_3197 o 3).toInt := by rw [kp_3239 3 rfl]
                      have t_3242 : (I_3235 o 4).toInt = (I_3197 o 4).toInt := by rw [kp_3239 4 rfl]
                      have t_3243 : (I_3235 o 6).toInt = (I_3197 o 6).toInt := by rw [kp_3239 6 rfl]
                      have t_3244 : (I_3235 o 7).toInt = (I_3197 o 7).toInt := by rw [kp_3239 7 rfl]
                      have t_3245 : (I_3235 o 8).toInt = (I_3197 o 8).toInt := by rw [kp_3239 8 rfl]
                      have t_3246 : (I_3235 o 9).toInt = (I_3197 o 9).toInt := by rw [kp_3239 9 rfl]
                      have t_3247 : (I_3235 o 44).toInt = (I_3197 o 44).toInt := by rw [kp_3239 44 rfl]
                      have g_3248 : (0 : Int) ≤ (I_3235 o 45).toInt ∧ (I_3235 o 45).toInt ≤ 700 := hR_3237.at0 ra 45 (by decide)
                      have t_3249 : (I_3235 o 47).toInt = (I_3197 o 47).toInt := by rw [kp_3239 47 rfl]
                      have t_3250 : (I_3235 o 48).toInt = (I_3197 o 48).toInt := by rw [kp_3239 48 rfl]
                      have t_3251 : (I_3235 o 46).toInt = (I_3197 o 46).toInt := by rw [kp_3239 46 rfl]
                      have k_3252 : MPo I_3235 o := k_3214.fr (kp_3239 8 rfl) (kp_3239 9 rfl)
                      have k_3253 : MTk I_3235 o := k_3215.fr (kp_3239 6 rfl) (kp_3239 7 rfl) (kp_3239 8 rfl)
                      have tk := k_3253.2 (by omega)
                      have k_3254 : EX 0 0 1 f0 0 I_3235 o := by exact EX.step1 k_3212 (by first | exact u_2716 (by omega) | (unfold isT; decide)) (by omega) (fr_3238 _ (by first | omega | (dsimp only; omega))) (fr_3238 _ (by first | omega | (dsimp only; omega))) u_3233 (fr_3238 _ (by first | omega | (dsimp only; omega))) (fr_3238 _ (by first | omega | (dsimp only; omega))) (kp_3239 3 rfl) (kp_3239 6 rfl) (kp_3239 44 rfl) u_3234 (kp_3239 47 rfl) (kp_3239 48 rfl)
                      have k_3255 : MTd I_3235 o := by exact MTd.step k_3213 (fr_3238 _ (by first | omega | (dsimp only; omega))) (fr_3238 _ (by first | omega | (dsimp only; omega))) u_3233 (by omega)
                      refine y_Model_next hok hw ra hz16 hz17 hz18 hz19 (by first | omega | (intro h; omega) | exact Or.inl rfl | exact Or.inr rfl) hR_3237 (fun I_3265 L_3266 hR_3267 fr_3268 kp_3269 u_3257 u_3258 u_3259 u_3260 u_3261 u_3262 u_3263 u_3264 => ⟨I_3265, L_3266, rfl, rfl, ?_⟩)
                      have hf_3270 : Fm (fun c => c = o ∨ (o + 30 ≤ c ∧ c < o + 34)) I0 I_3265 := hf_3240.call fr_3268 (fun c hc => by first | exact hc | (dsimp only at hc ⊢; omega) | omega)
                      have t_3271 : (I_3265 o 3).toInt = (I_3235 o 3).toInt := by rw [kp_3269 3 rfl]
                      have t_3272 : (I_3265 o 4).toInt = (I_3235 o 4).toInt := by rw [kp_3269 4 rfl]
                      have g_3273 : (0 : Int) ≤ (I_3265 o 6).toInt ∧ (I_3265 o 6).toInt ≤ 1600 := hR_3267.at0 ra 6 (by decide)
                      have g_3274 : (0 : Int) ≤ (I_3265 o 7).toInt ∧ (I_3265 o 7).toInt ≤ 1601 := hR_3267.at0 ra 7 (by decide)
                      have g_3275 : (0 : Int) ≤ (I_3265 o 8).toInt ∧ (I_3265 o 8).toInt ≤ 6 := hR_3267.at0 ra 8 (by decide)
                      have t_3276 : (I_3265 o 44).toInt = (I_3235 o 44).toInt := by rw [kp_3269 44 rfl]
                      have t_3277 : (I_3265 o 45).toInt = (I_3235 o 45).toInt := by rw [kp_3269 45 rfl]
                      have t_3278 : (I_3265 o 47).toInt = (I_3235 o 47).toInt := by rw [kp_3269 47 rfl]
                      have t_3279 : (I_3265 o 48).toInt = (I_3235 o 48).toInt := by rw [kp_3269 48 rfl]
                      have t_3280 : (I_3265 o 46).toInt = (I_3235 o 46).toInt := by rw [kp_3269 46 rfl]
                      have k_3281 : MTd I_3265 o := k_3255.fr (fr_3268 _ (by first | omega | (dsimp only; omega))) (fr_3268 _ (by first | omega | (dsimp only; omega))) (fr_3268 _ (by first | omega | (dsimp only; omega)))
                      have ms := u_3260 (by omega)
                      have k_3282 : EX 0 0 0 f0 0 I_3265 o := by exact EX.nx k_3254 (fr_3268 _ (by first | omega | (dsimp only; omega))) (fr_3268 _ (by first | omega | (dsimp only; omega))) (fr_3268 _ (by first | omega | (dsimp only; omega))) (fr_3268 _ (by first | omega | (dsimp only; omega))) (fr_3268 _ (by first | omega | (dsimp only; omega))) (kp_3269 3 rfl) (kp_3269 44 rfl) (kp_3269 45 rfl) (kp_3269 47 rfl) (kp_3269 48 rfl) (by omega) (by omega)
                      exact (hp _ _ _ hR_3267 hf_3270 (Or.inl rfl) (by first | omega | (intro h; omega) | exact Or.inl rfl | exact Or.inr rfl) (by first | omega | (intro h; omega) | exact Or.inl rfl | exact Or.inr rfl) (by first | omega | (intro h; omega) | exact Or.inl rfl | exact Or.inr rfl) (by first | omega | (intro h; omega) | exact Or.inl rfl | exact Or.inr rfl) (by first | omega | (intro h; omega) | exact Or.inl rfl | exact Or.inr rfl) (by first | (intro h; exfalso; omega) | exact fun _ => (False.elim (by omega)) | exact fun _ => k_3282) k_3281 u_3263 u_3264)
                    · have d_3283 := iEq c_3228
                      refine y_Model_step hok hw ra hz55 (by first | omega | (intro h; omega) | exact Or.inl rfl | exact Or.inr rfl) (by first | omega | (intro h; omega) | exact Or.inl rfl | exact Or.inr rfl) hR_3199 (fun I_3287 L_3288 hR_3289 fr_3290 kp_3291 u_3285 u_3286 => ⟨I_3287, L_3288, rfl, rfl, ?_⟩)
                      have hf_3292 : Fm (fun c => c = o ∨ (o + 30 ≤ c ∧ c < o + 34)) I0 I_3287 := hf_3200.call fr_3290 (fun c hc => by first | exact hc | (dsimp only at hc ⊢; omega) | omega)
                      have t_3293 : (I_3287 o 3).toInt = (I_3197 o 3).toInt := by rw [kp_3291 3 rfl]
                      have t_3294 : (I_3287 o 4).toInt = (I_3197 o 4).toInt := by rw [kp_3291 4 rfl]
                      have t_3295 : (I_3287 o 6).toInt = (I_3197 o 6).toInt := by rw [kp_3291 6 rfl]
                      have t_3296 : (I_3287 o 7).toInt = (I_3197 o 7).toInt := by rw [kp_3291 7 rfl]
                      have t_3297 : (I_3287 o 8).toInt = (I_3197 o 8).toInt := by rw [kp_3291 8 rfl]
                      have t_3298 : (I_3287 o 9).toInt = (I_3197 o 9).toInt := by rw [kp_3291 9 rfl]
                      have t_3299 : (I_3287 o 44).toInt = (I_3197 o 44).toInt := by rw [kp_3291 44 rfl]
                      have g_3300 : (0 : Int) ≤ (I_3287 o 45).toInt ∧ (I_3287 o 45).toInt ≤ 700 := hR_3289.at0 ra 45 (by decide)
                      have t_3301 : (I_3287 o 47).toInt = (I_3197 o 47).toInt := by rw [kp_3291 47 rfl]
                      have t_3302 : (I_3287 o 48).toInt = (I_3197 o 48).toInt := by rw [kp_3291 48 rfl]
                      have t_3303 : (I_3287 o 46).toInt = (I_3197 o 46).toInt := by rw [kp_3291 46 rfl]
                      have k_3304 : MPo I_3287 o := k_3214.fr (kp_3291 8 rfl) (kp_3291 9 rfl)
                      have k_3305 : MTk I_3287 o := k_3215.fr (kp_3291 6 rfl) (kp_3291 7 rfl) (kp_3291 8 rfl)
                      have tk := k_3305.2 (by omega)
                      have k_3306 : EX 0 0 1 f0 0 I_3287 o := by exact EX.step1 k_3212 (by first | exact u_2716 (by omega) | (unfold isT; decide)) (by omega) (fr_3290 _ (by first | omega | (dsimp only; omega))) (fr_3290 _ (by first | omega | (dsimp only; omega))) u_3285 (fr_3290 _ (by first | omega | (dsimp only; omega))) (fr_3290 _ (by first | omega | (dsimp only; omega))) (kp_3291 3 rfl) (kp_3291 6 rfl) (kp_3291 44 rfl) u_3286 (kp_3291 47 rfl) (kp_3291 48 rfl)
                      have k_3307 : MTd I_3287 o := by exact MTd.step k_3213 (fr_3290 _ (by first | omega | (dsimp only; omega))) (fr_3290 _ (by first | omega | (dsimp only; omega))) u_3285 (by omega)
                      refine y_Model_next hok hw ra hz16 hz17 hz18 hz19 (by first | omega | (intro h; omega) | exact Or.inl rfl | exact Or.inr rfl) hR_3289 (fun I_3317 L_3318 hR_3319 fr_3320 kp_3321 u_3309 u_3310 u_3311 u_3312 u_3313 u_3314 u_3315 u_3316 => ⟨I_3317, L_3318, rfl, rfl, ?_⟩)
                      have hf_3322 : Fm (fun c => c = o ∨ (o + 30 ≤ c ∧ c < o + 34)) I0 I_3317 := hf_3292.call fr_3320 (fun c hc => by first | exact hc | (dsimp only at hc ⊢; omega) | omega)
                      have t_3323 : (I_3317 o 3).toInt = (I_3287 o 3).toInt := by rw [kp_3321 3 rfl]
                      have t_3324 : (I_3317 o 4).toInt = (I_3287 o 4).toInt := by rw [kp_3321 4 rfl]
                      have g_3325 : (0 : Int) ≤ (I_3317 o 6).toInt ∧ (I_3317 o 6).toInt ≤ 1600 := hR_3319.at0 ra 6 (by decide)
                      have g_3326 : (0 : Int) ≤ (I_3317 o 7).toInt ∧ (I_3317 o 7).toInt ≤ 1601 := hR_3319.at0 ra 7 (by decide)
                      have g_3327 : (0 : Int) ≤ (I_3317 o 8).toInt ∧ (I_3317 o 8).toInt ≤ 6 := hR_3319.at0 ra 8 (by decide)
                      have t_3328 : (I_3317 o 44).toInt = (I_3287 o 44).toInt := by rw [kp_3321 44 rfl]
                      have t_3329 : (I_3317 o 45).toInt = (I_3287 o 45).toInt := by rw [kp_3321 45 rfl]
                      have t_3330 : (I_3317 o 47).toInt = (I_3287 o 47).toInt := by rw [kp_3321 47 rfl]
                      have t_3331 : (I_3317 o 48).toInt = (I_3287 o 48).toInt := by rw [kp_3321 48 rfl]
                      have t_3332 : (I_3317 o 46).toInt = (I_3287 o 46).toInt := by rw [kp_3321 46 rfl]
                      have k_3333 : MTd I_3317 o := k_3307.fr (fr_3320 _ (by first | omega | (dsimp only; omega))) (fr_3320 _ (by first | omega | (dsimp only; omega))) (fr_3320 _ (by first | omega | (dsimp only; omega)))
                      have ms := u_3312 (by omega)
                      have k_3334 : EX 0 0 0 f0 0 I_3317 o := by exact EX.nx k_3306 (fr_3320 _ (by first | omega | (dsimp only; omega))) (fr_3320 _ (by first | omega | (dsimp only; omega))) (fr_3320 _ (by first | omega | (dsimp only; omega))) (fr_3320 _ (by first | omega | (dsimp only; omega))) (fr_3320 _ (by first | omega | (dsimp only; omega))) (kp_3321 3 rfl) (kp_3321 44 rfl) (kp_3321 45 rfl) (kp_3321 47 rfl) (kp_3321 48 rfl) (by omega) (by omega)
                      exact (hp _ _ _ hR_3319 hf_3322 (Or.inl rfl) (by first | omega | (intro h; omega) | exact Or.inl rfl | exact Or.inr rfl) (by first | omega | (intro h; omega) | exact Or.inl rfl | exact Or.inr rfl) (by first | omega | (intro h; omega) | exact Or.inl rfl | exact Or.inr rfl) (by first | omega | (intro h; omega) | exact Or.inl rfl | exact Or.inr rfl) (by first | omega | (intro h; omega) | exact Or.inl rfl | exact Or.inr rfl) (by first | (intro h; exfalso; omega) | exact fun _ => (False.elim (by omega)) | exact fun _ => k_3334) k_3333 u_3315 u_3316)
                  · have d_3335 := iEq c_3224
                    unfold fModel_unit_228
                    have l_3336 : (78 : Int32).toInt = 78 := rfl
                    refine ⟨fun c_3337 => ?_, fun c_3337 => ?_⟩
                    · have d_3338 := iNe c_3337
                      have i_3339 := u_2716 (by omega)
                      have i_3340 := u_2717 (by omega)
                      exfalso; omega
                    · have d_3341 := iEq c_3337
                      refine y_Model_step hok hw ra hz55 (by first | omega | (intro h; omega) | exact Or.inl rfl | exact Or.inr rfl) (by first | omega | (intro h; omega) | exact Or.inl rfl | exact Or.inr rfl) hR_3199 (fun I_3345 L_3346 hR_3347 fr_3348 kp_3349 u_3343 u_3344 => ⟨I_3345, L_3346, rfl, rfl, ?_⟩)
                      have hf_3350 : Fm (fun c => c = o ∨ (o + 30 ≤ c ∧ c < o + 34)) I0 I_3345 := hf_3200.call fr_3348 (fun c hc => by first | exact hc | (dsimp only at hc ⊢; omega) | omega)
                      have t_3351 : (I_3345 o 3).toInt = (I_3197 o 3).toInt := by rw [kp_3349 3 rfl]
                      have t_3352 : (I_3345 o 4).toInt = (I_3197 o 4).toInt := by rw [kp_3349 4 rfl]
                      have t_3353 : (I_3345 o 6).toInt = (I_3197 o 6).toInt := by rw [kp_3349 6 rfl]
                      have t_3354 : (I_3345 o 7).toInt = (I_3197 o 7).toInt := by rw [kp_3349 7 rfl]
                      have t_3355 : (I_3345 o 8).toInt = (I_3197 o 8).toInt := by rw [kp_3349 8 rfl]
                      have t_3356 : (I_3345 o 9).toInt = (I_3197 o 9).toInt := by rw [kp_3349 9 rfl]
                      have t_3357 : (I_3345 o 44).toInt = (I_3197 o 44).toInt := by rw [kp_3349 44 rfl]
                      have g_3358 : (0 : Int) ≤ (I_3345 o 45).toInt ∧ (I_3345 o 45).toInt ≤ 700 := hR_3347.at0 ra 45 (by decide)
                      have t_3359 : (I_3345 o 47).toInt = (I_3197 o 47).toInt := by rw [kp_3349 47 rfl]
                      have t_3360 : (I_3345 o 48).toInt = (I_3197 o 48).toInt := by rw [kp_3349 48 rfl]
                      have t_3361 : (I_3345 o 46).toInt = (I_3197 o 46).toInt := by rw [kp_3349 46 rfl]
                      have k_3362 : MPo I_3345 o := k_3214.fr (kp_3349 8 rfl) (kp_3349 9 rfl)
                      have k_3363 : MTk I_3345 o := k_3215.fr (kp_3349 6 rfl) (kp_3349 7 rfl) (kp_3349 8 rfl)
                      have tk := k_3363.2 (by omega)
                      have k_3364 : EX 0 0 1 f0 0 I_3345 o := by exact EX.step1 k_3212 (by first | exact u_2716 (by omega) | (unfold isT; decide)) (by omega) (fr_3348 _ (by first | omega | (dsimp only; omega))) (fr_3348 _ (by first | omega | (dsimp only; omega))) u_3343 (fr_3348 _ (by first | omega | (dsimp only; omega))) (fr_3348 _ (by first | omega | (dsimp only; omega))) (kp_3349 3 rfl) (kp_3349 6 rfl) (kp_3349 44 rfl) u_3344 (kp_3349 47 rfl) (kp_3349 48 rfl)
                      have k_3365 : MTd I_3345 o := by exact MTd.step k_3213 (fr_3348 _ (by first | omega | (dsimp only; omega))) (fr_3348 _ (by first | omega | (dsimp only; omega))) u_3343 (by omega)
                      refine y_Model_next hok hw ra hz16 hz17 hz18 hz19 (by first | omega | (intro h; omega) | exact Or.inl rfl | exact Or.inr rfl) hR_3347 (fun I_3375 L_3376 hR_3377 fr_3378 kp_3379 u_3367 u_3368 u_3369 u_3370 u_3371 u_3372 u_3373 u_3374 => ⟨I_3375, L_3376, rfl, rfl, ?_⟩)
                      have hf_3380 : Fm (fun c => c = o ∨ (o + 30 ≤ c ∧ c < o + 34)) I0 I_3375 := hf_3350.call fr_3378 (fun c hc => by first | exact hc | (dsimp only at hc ⊢; omega) | omega)
                      have t_3381 : (I_3375 o 3).toInt = (I_3345 o 3).toInt := by rw [kp_3379 3 rfl]
                      have t_3382 : (I_3375 o 4).toInt = (I_3345 o 4).toInt := by rw [kp_3379 4 rfl]
                      have g_3383 : (0 : Int) ≤ (I_3375 o 6).toInt ∧ (I_3375 o 6).toInt ≤ 1600 := hR_3377.at0 ra 6 (by decide)
                      have g_3384 : (0 : Int) ≤ (I_3375 o 7).toInt ∧ (I_3375 o 7).toInt ≤ 1601 := hR_3377.at0 ra 7 (by decide)
                      have g_3385 : (0 : Int) ≤ (I_3375 o 8).toInt ∧ (I_3375 o 8).toInt ≤ 6 := hR_3377.at0 ra 8 (by decide)
                      have t_3386 : (I_3375 o 44).toInt = (I_3345 o 44).toInt := by rw [kp_3379 44 rfl]
                      have t_3387 : (I_3375 o 45).toInt = (I_3345 o 45).toInt := by rw [kp_3379 45 rfl]
                      have t_3388 : (I_3375 o 47).toInt = (I_3345 o 47).toInt := by rw [kp_3379 47 rfl]
                      have t_3389 : (I_3375 o 48).toInt = (I_3345 o 48).toInt := by rw [kp_3379 48 rfl]
                      have t_3390 : (I_3375 o 46).toInt = (I_3345 o 46).toInt := by rw [kp_3379 46 rfl]
                      have k_3391 : MTd I_3375 o := k_3365.fr (fr_3378 _ (by first | omega | (dsimp only; omega))) (fr_3378 _ (by first | omega | (dsimp only; omega))) (fr_3378 _ (by first | omega | (dsimp only; omega)))
                      have ms := u_3370 (by omega)
                      have k_3392 : EX 0 0 0 f0 0 I_3375 o := by exact EX.nx k_3364 (fr_3378 _ (by first | omega | (dsimp only; omega))) (fr_3378 _ (by first | omega | (dsimp only; omega))) (fr_3378 _ (by first | omega | (dsimp only; omega))) (fr_3378 _ (by first | omega | (dsimp only; omega))) (fr_3378 _ (by first | omega | (dsimp only; omega))) (kp_3379 3 rfl) (kp_3379 44 rfl) (kp_3379 45 rfl) (kp_3379 47 rfl) (kp_3379 48 rfl) (by omega) (by omega)
                      exact (hp _ _ _ hR_3377 hf_3380 (Or.inl rfl) (by first | omega | (intro h; omega) | exact Or.inl rfl | exact Or.inr rfl) (by first | omega | (intro h; omega) | exact Or.inl rfl | exact Or.inr rfl) (by first | omega | (intro h; omega) | exact Or.inl rfl | exact Or.inr rfl) (by first | omega | (intro h; omega) | exact Or.inl rfl | exact Or.inr rfl) (by first | omega | (intro h; omega) | exact Or.inl rfl | exact Or.inr rfl) (by first | (intro h; exfalso; omega) | exact fun _ => (False.elim (by omega)) | exact fun _ => k_3392) k_3391 u_3373 u_3374)
                · have d_3393 := iNe c_3222
                  have i_3394 := u_3219 (by omega)
                  have i_3395 := u_3220 (by omega)
                  have g_3396 : (0 : Int) ≤ (I_3197 o 47).toInt ∧ (I_3197 o 47).toInt ≤ 7 := hR_3199.at0 ra 47 (by decide)
                  refine ⟨fun c_3397 => ?_, fun c_3397 => ?_⟩
                  · have d_3398 := iNe c_3397
                    refine y_Model_isGood hok hw ra hR_3199 (fun r_3399 u_3400 u_3401 u_3402 => ⟨r_3399, I_3197, L_3167, rfl, rfl, ?_⟩)
                    have b_3403 : 0 ≤ r_3399.toInt ∧ r_3399.toInt ≤ 1 := u_3400.rg
                    refine ⟨fun c_3404 => ?_, fun c_3404 => ?_⟩
                    · have d_3405 := iNe c_3404
                      have i_3406 := u_3401 (by omega)
                      refine y_Model_pile hok hw ra hz58 (by first | omega | (intro h; omega) | exact Or.inl rfl | exact Or.inr rfl) (by first | omega | (intro h; omega) | exact Or.inl rfl | exact Or.inr rfl) hR_3199 (fun I_3411 L_3412 hR_3413 fr_3414 kp_3415 u_3408 u_3409 u_3410 => ⟨I_3411, L_3412, rfl, rfl, ?_⟩)
                      have hf_3416 : Fm (fun c => c = o ∨ (o + 30 ≤ c ∧ c < o + 34)) I0 I_3411 := hf_3200.call fr_3414 (fun c hc => by first | exact hc | (dsimp only at hc ⊢; omega) | omega)
                      have t_3417 : (I_3411 o 3).toInt = (I_3197 o 3).toInt := by rw [kp_3415 3 rfl]
                      have t_3418 : (I_3411 o 4).toInt = (I_3197 o 4).toInt := by rw [kp_3415 4 rfl]
                      have t_3419 : (I_3411 o 6).toInt = (I_3197 o 6).toInt := by rw [kp_3415 6 rfl]
                      have t_3420 : (I_3411 o 7).toInt = (I_3197 o 7).toInt := by rw [kp_3415 7 rfl]
                      have t_3421 : (I_3411 o 8).toInt = (I_3197 o 8).toInt := by rw [kp_3415 8 rfl]
                      have t_3422 : (I_3411 o 9).toInt = (I_3197 o 9).toInt := by rw [kp_3415 9 rfl]
                      have t_3423 : (I_3411 o 44).toInt = (I_3197 o 44).toInt := by rw [kp_3415 44 rfl]
                      have t_3424 : (I_3411 o 45).toInt = (I_3197 o 45).toInt := by rw [kp_3415 45 rfl]
                      have t_3425 : (I_3411 o 47).toInt = (I_3197 o 47).toInt := by rw [kp_3415 47 rfl]
                      have g_3426 : (0 : Int) ≤ (I_3411 o 48).toInt ∧ (I_3411 o 48).toInt ≤ 80 := hR_3413.at0 ra 48 (by decide)
                      have t_3427 : (I_3411 o 46).toInt = (I_3197 o 46).toInt := by rw [kp_3415 46 rfl]
                      have k_3428 : MTd I_3411 o := k_3213.fr (fr_3414 _ (by first | omega | (dsimp only; omega))) (fr_3414 _ (by first | omega | (dsimp only; omega))) (fr_3414 _ (by first | omega | (dsimp only; omega)))
                      have k_3429 : MPo I_3411 o := k_3214.fr (kp_3415 8 rfl) (kp_3415 9 rfl)
                      have k_3430 : MTk I_3411 o := k_3215.fr (kp_3415 6 rfl) (kp_3415 7 rfl) (kp_3415 8 rfl)
                      have k_3431 : EX 0 1 1 f0 1 I_3411 o := by have z := EX.push k_3212 (v := 7) (s := 0) (dB := 1) (dO := 0) (wt' := 1) (by decide) (by decide) (by decide) (by omega) ⟨by decide, by decide⟩ ⟨fun h => absurd h (by decide), fun h => absurd h (by decide)⟩ (Or.inl rfl) (fr_3414 _ (by first | omega | (dsimp only; omega))) (fr_3414 _ (by first | omega | (dsimp only; omega))) (fr_3414 _ (by first | omega | (dsimp only; omega))) u_3408 u_3409 (kp_3415 3 rfl) (kp_3415 6 rfl) (kp_3415 44 rfl) (kp_3415 45 rfl) (kp_3415 47 rfl) u_3410; exact EX.chg (b' := 1) z rfl rfl rfl rfl rfl rfl rfl rfl rfl rfl (by omega) z.pl
                      have g_3432 : (0 : Int) ≤ (I_3411 o 47).toInt ∧ (I_3411 o 47).toInt ≤ 7 := hR_3413.at0 ra 47 (by decide)
                      have a_3433 : ((I_3411 o 47) + 1).toInt = (I_3411 o 47).toInt + (1 : Int32).toInt := tAdd (by omega) (by omega)
                      refine fun I_3434 e_3435 => ?_
                      have hR_3436 : RI R I_3434 := hR_3413.up0 (k := 47) ra (by decide) (Or.inr hz57) e_3435 (show (0 : Int) ≤ ((I_3411 o 47) + 1).toInt by omega) (show ((I_3411 o 47) + 1).toInt ≤ (7 : Int) by omega)
                      have hf_3437 : Fm (fun c => c = o ∨ (o + 30 ≤ c ∧ c < o + 34)) I0 I_3434 := hf_3416.set (by first | rfl | omega | (dsimp only; omega)) e_3435
                      have t_3438 : (I_3434 o 3).toInt = (I_3411 o 3).toInt := by rw [← e_3435, q_u_k (by decide)]
                      have t_3439 : (I_3434 o 4).toInt = (I_3411 o 4).toInt := by rw [← e_3435, q_u_k (by decide)]
                      have t_3440 : (I_3434 o 6).toInt = (I_3411 o 6).toInt := by rw [← e_3435, q_u_k (by decide)]
                      have t_3441 : (I_3434 o 7).toInt = (I_3411 o 7).toInt := by rw [← e_3435, q_u_k (by decide)]
                      have t_3442 : (I_3434 o 8).toInt = (I_3411 o 8).toInt := by rw [← e_3435, q_u_k (by decide)]
                      have t_3443 : (I_3434 o 9).toInt = (I_3411 o 9).toInt := by rw [← e_3435, q_u_k (by decide)]
                      have t_3444 : (I_3434 o 44).toInt = (I_3411 o 44).toInt := by rw [← e_3435, q_u_k (by decide)]
                      have t_3445 : (I_3434 o 45).toInt = (I_3411 o 45).toInt := by rw [← e_3435, q_u_k (by decide)]
                      have t_3446 : (I_3434 o 47).toInt = ((I_3411 o 47) + 1).toInt := by rw [← e_3435, q_u_at]
                      have t_3447 : (I_3434 o 48).toInt = (I_3411 o 48).toInt := by rw [← e_3435, q_u_k (by decide)]
                      have t_3448 : (I_3434 o 46).toInt = (I_3411 o 46).toInt := by rw [← e_3435, q_u_k (by decide)]
                      have k_3449 : MTd I_3434 o := k_3428.fr (by rw [← e_3435]; exact q_u_ne (by omega)) (by rw [← e_3435]; exact q_u_ne (by omega)) (by rw [← e_3435]; exact q_u_ne (by omega))
                      have k_3450 : MPo I_3434 o := k_3429.fr (by rw [← e_3435, q_u_k (by decide)]) (by rw [← e_3435, q_u_k (by decide)])
                      have k_3451 : MTk I_3434 o := k_3430.fr (by rw [← e_3435, q_u_k (by decide)]) (by rw [← e_3435, q_u_k (by decide)]) (by rw [← e_3435, q_u_k (by decide)])
                      have tk := k_3451.2 (by omega)
                      have k_3453 : EX 0 0 1 f0 1 I_3434 o := by exact EX.put47 k_3431 e_3435 (by omega)
                      refine y_Model_next hok hw ra hz16 hz17 hz18 hz19 (by first | omega | (intro h; omega) | exact Or.inl rfl | exact Or.inr rfl) hR_3436 (fun I_3463 L_3464 hR_3465 fr_3466 kp_3467 u_3455 u_3456 u_3457 u_3458 u_3459 u_3460 u_3461 u_3462 => ⟨I_3463, L_3464, rfl, rfl, ?_⟩)
                      have hf_3468 : Fm (fun c => c = o ∨ (o + 30 ≤ c ∧ c < o + 34)) I0 I_3463 := hf_3437.call fr_3466 (fun c hc => by first | exact hc | (dsimp only at hc ⊢; omega) | omega)
                      have t_3469 : (I_3463 o 3).toInt = (I_3434 o 3).toInt := by rw [kp_3467 3 rfl]
                      have t_3470 : (I_3463 o 4).toInt = (I_3434 o 4).toInt := by rw [kp_3467 4 rfl]
                      have g_3471 : (0 : Int) ≤ (I_3463 o 6).toInt ∧ (I_3463 o 6).toInt ≤ 1600 := hR_3465.at0 ra 6 (by decide)
                      have g_3472 : (0 : Int) ≤ (I_3463 o 7).toInt ∧ (I_3463 o 7).toInt ≤ 1601 := hR_3465.at0 ra 7 (by decide)
                      have g_3473 : (0 : Int) ≤ (I_3463 o 8).toInt ∧ (I_3463 o 8).toInt ≤ 6 := hR_3465.at0 ra 8 (by decide)
                      have t_3474 : (I_3463 o 44).toInt = (I_3434 o 44).toInt := by rw [kp_3467 44 rfl]
                      have t_3475 : (I_3463 o 45).toInt = (I_3434 o 45).toInt := by rw [kp_3467 45 rfl]
                      have t_3476 : (I_3463 o 47).toInt = (I_3434 o 47).toInt := by rw [kp_3467 47 rfl]
                      have t_3477 : (I_3463 o 48).toInt = (I_3434 o 48).toInt := by rw [kp_3467 48 rfl]
                      have t_3478 : (I_3463 o 46).toInt = (I_3434 o 46).toInt := by rw [kp_3467 46 rfl]
                      have k_3479 : MTd I_3463 o := k_3449.fr (fr_3466 _ (by first | omega | (dsimp only; omega))) (fr_3466 _ (by first | omega | (dsimp only; omega))) (fr_3466 _ (by first | omega | (dsimp only; omega)))
                      have ms := u_3458 (by omega)
                      have k_3480 : EX 0 0 0 f0 1 I_3463 o := by exact EX.nx k_3453 (fr_3466 _ (by first | omega | (dsimp only; omega))) (fr_3466 _ (by first | omega | (dsimp only; omega))) (fr_3466 _ (by first | omega | (dsimp only; omega))) (fr_3466 _ (by first | omega | (dsimp only; omega))) (fr_3466 _ (by first | omega | (dsimp only; omega))) (kp_3467 3 rfl) (kp_3467 44 rfl) (kp_3467 45 rfl) (kp_3467 47 rfl) (kp_3467 48 rfl) (by omega) (by omega)
                      exact (hp _ _ _ hR_3465 hf_3468 (Or.inr rfl) (by first | omega | (intro h; omega) | exact Or.inl rfl | exact Or.inr rfl) (by first | omega | (intro h; omega) | exact Or.inl rfl | exact Or.inr rfl) (by first | omega | (intro h; omega) | exact Or.inl rfl | exact Or.inr rfl) (by first | omega | (intro h; omega) | exact Or.inl rfl | exact Or.inr rfl) (by first | omega | (intro h; omega) | exact Or.inl rfl | exact Or.inr rfl) (by first | (intro h; exfalso; omega) | exact fun _ => k_3480 | exact fun _ => (False.elim (by omega))) k_3479 u_3461 u_3462)
                    · have d_3481 := iEq c_3404
                      have i_3482 := u_3402 (by omega)
                      exact (hp _ _ _ hR_3199 hf_3200 (Or.inr rfl) (by first | omega | (intro h; omega) | exact Or.inl rfl | exact Or.inr rfl) (by first | omega | (intro h; omega) | exact Or.inl rfl | exact Or.inr rfl) (by first | omega | (intro h; omega) | exact Or.inl rfl | exact Or.inr rfl) (by first | omega | (intro h; omega) | exact Or.inl rfl | exact Or.inr rfl) (by first | omega | (intro h; omega) | exact Or.inl rfl | exact Or.inr rfl) (by first | (intro h; exfalso; omega) | exact fun _ => k_3212 | exact fun _ => (False.elim (by omega))) k_3213 k_3214 k_3215)
                  · have d_3483 := iEq c_3397
                    refine y_Model_wrong hok hw ra hz14 hz15 hR_3199 (fun I_3487 L_3488 hR_3489 fr_3490 kp_3491 u_3485 u_3486 => ⟨I_3487, L_3488, rfl, rfl, ?_⟩)
                    have hf_3492 : Fm (fun c => c = o ∨ (o + 30 ≤ c ∧ c < o + 34)) I0 I_3487 := hf_3200.call fr_3490 (fun c hc => by first | exact hc | (dsimp only at hc ⊢; omega) | omega)
                    have t_3493 : (I_3487 o 3).toInt = (I_3197 o 3).toInt := by rw [kp_3491 3 rfl]
                    have g_3494 : (0 : Int) ≤ (I_3487 o 4).toInt ∧ (I_3487 o 4).toInt ≤ 5 := hR_3489.at0 ra 4 (by decide)
                    have t_3495 : (I_3487 o 6).toInt = (I_3197 o 6).toInt := by rw [kp_3491 6 rfl]
                    have t_3496 : (I_3487 o 7).toInt = (I_3197 o 7).toInt := by rw [kp_3491 7 rfl]
                    have t_3497 : (I_3487 o 8).toInt = (I_3197 o 8).toInt := by rw [kp_3491 8 rfl]
                    have t_3498 : (I_3487 o 9).toInt = (I_3197 o 9).toInt := by rw [kp_3491 9 rfl]
                    have t_3499 : (I_3487 o 44).toInt = (I_3197 o 44).toInt := by rw [kp_3491 44 rfl]
                    have t_3500 : (I_3487 o 45).toInt = (I_3197 o 45).toInt := by rw [kp_3491 45 rfl]
                    have t_3501 : (I_3487 o 47).toInt = (I_3197 o 47).toInt := by rw [kp_3491 47 rfl]
                    have t_3502 : (I_3487 o 48).toInt = (I_3197 o 48).toInt := by rw [kp_3491 48 rfl]
                    have t_3503 : (I_3487 o 46).toInt = (I_3197 o 46).toInt := by rw [kp_3491 46 rfl]
                    have k_3504 : EX 0 0 0 f0 1 I_3487 o := k_3212.fr (fr_3490 _ (by first | omega | (dsimp only; omega))) (fr_3490 _ (by first | omega | (dsimp only; omega))) (fr_3490 _ (by first | omega | (dsimp only; omega))) (fr_3490 _ (by first | omega | (dsimp only; omega))) (fr_3490 _ (by first | omega | (dsimp only; omega))) (kp_3491 3 rfl) (kp_3491 6 rfl) (kp_3491 44 rfl) (kp_3491 45 rfl) (kp_3491 47 rfl) (kp_3491 48 rfl)
                    have k_3505 : MTd I_3487 o := k_3213.fr (fr_3490 _ (by first | omega | (dsimp only; omega))) (fr_3490 _ (by first | omega | (dsimp only; omega))) (fr_3490 _ (by first | omega | (dsimp only; omega)))
                    have k_3506 : MPo I_3487 o := k_3214.fr (kp_3491 8 rfl) (kp_3491 9 rfl)
                    have k_3507 : MTk I_3487 o := k_3215.fr (kp_3491 6 rfl) (kp_3491 7 rfl) (kp_3491 8 rfl)
                    refine y_Model_isGood hok hw ra hR_3489 (fun r_3508 u_3509 u_3510 u_3511 => ⟨r_3508, I_3487, L_3488, rfl, rfl, ?_⟩)
                    have b_3512 : 0 ≤ r_3508.toInt ∧ r_3508.toInt ≤ 1 := u_3509.rg
                    refine ⟨fun c_3513 => ?_, fun c_3513 => ?_⟩
                    · have d_3514 := iNe c_3513
                      have i_3515 := u_3510 (by omega)
                      refine y_Model_pile hok hw ra hz58 (by first | omega | (intro h; omega) | exact Or.inl rfl | exact Or.inr rfl) (by first | omega | (intro h; omega) | exact Or.inl rfl | exact Or.inr rfl) hR_3489 (fun I_3520 L_3521 hR_3522 fr_3523 kp_3524 u_3517 u_3518 u_3519 => ⟨I_3520, L_3521, rfl, rfl, ?_⟩)
                      have hf_3525 : Fm (fun c => c = o ∨ (o + 30 ≤ c ∧ c < o + 34)) I0 I_3520 := hf_3492.call fr_3523 (fun c hc => by first | exact hc | (dsimp only at hc ⊢; omega) | omega)
                      have t_3526 : (I_3520 o 3).toInt = (I_3487 o 3).toInt := by rw [kp_3524 3 rfl]
                      have t_3527 : (I_3520 o 4).toInt = (I_3487 o 4).toInt := by rw [kp_3524 4 rfl]
                      have t_3528 : (I_3520 o 6).toInt = (I_3487 o 6).toInt := by rw [kp_3524 6 rfl]
                      have t_3529 : (I_3520 o 7).toInt = (I_3487 o 7).toInt := by rw [kp_3524 7 rfl]
                      have t_3530 : (I_3520 o 8).toInt = (I_3487 o 8).toInt := by rw [kp_3524 8 rfl]
                      have t_3531 : (I_3520 o 9).toInt = (I_3487 o 9).toInt := by rw [kp_3524 9 rfl]
                      have t_3532 : (I_3520 o 44).toInt = (I_3487 o 44).toInt := by rw [kp_3524 44 rfl]
                      have t_3533 : (I_3520 o 45).toInt = (I_3487 o 45).toInt := by rw [kp_3524 45 rfl]
                      have t_3534 : (I_3520 o 47).toInt = (I_3487 o 47).toInt := by rw [kp_3524 47 rfl]
                      have g_3535 : (0 : Int) ≤ (I_3520 o 48).toInt ∧ (I_3520 o 48).toInt ≤ 80 := hR_3522.at0 ra 48 (by decide)
                      have t_3536 : (I_3520 o 46).toInt = (I_3487 o 46).toInt := by rw [kp_3524 46 rfl]
                      have k_3537 : MTd I_3520 o := k_3505.fr (fr_3523 _ (by first | omega | (dsimp only; omega))) (fr_3523 _ (by first | omega | (dsimp only; omega))) (fr_3523 _ (by first | omega | (dsimp only; omega)))
                      have k_3538 : MPo I_3520 o := k_3506.fr (kp_3524 8 rfl) (kp_3524 9 rfl)
                      have k_3539 : MTk I_3520 o := k_3507.fr (kp_3524 6 rfl) (kp_3524 7 rfl) (kp_3524 8 rfl)
                      have k_3540 : EX 0 1 1 f0 1 I_3520 o := by have z := EX.push k_3504 (v := 7) (s := 0) (dB := 1) (dO := 0) (wt' := 1) (by decide) (by decide) (by decide) (by omega) ⟨by decide, by decide⟩ ⟨fun h => absurd h (by decide), fun h => absurd h (by decide)⟩ (Or.inl rfl) (fr_3523 _ (by first | omega | (dsimp only; omega))) (fr_3523 _ (by first | omega | (dsimp only; omega))) (fr_3523 _ (by first | omega | (dsimp only; omega))) u_3517 u_3518 (kp_3524 3 rfl) (kp_3524 6 rfl) (kp_3524 44 rfl) (kp_3524 45 rfl) (kp_3524 47 rfl) u_3519; exact EX.chg (b' := 1) z rfl rfl rfl rfl rfl rfl rfl rfl rfl rfl (by omega) z.pl
                      have g_3541 : (0 : Int) ≤ (I_3520 o 47).toInt ∧ (I_3520 o 47).toInt ≤ 7 := hR_3522.at0 ra 47 (by decide)
                      have a_3542 : ((I_3520 o 47) + 1).toInt = (I_3520 o 47).toInt + (1 : Int32).toInt := tAdd (by omega) (by omega)
                      refine fun I_3543 e_3544 => ?_
                      have hR_3545 : RI R I_3543 := hR_3522.up0 (k := 47) ra (by decide) (Or.inr hz57) e_3544 (show (0 : Int) ≤ ((I_3520 o 47) + 1).toInt by omega) (show ((I_3520 o 47) + 1).toInt ≤ (7 : Int) by omega)
                      have hf_3546 : Fm (fun c => c = o ∨ (o + 30 ≤ c ∧ c < o + 34)) I0 I_3543 := hf_3525.set (by first | rfl | omega | (dsimp only; omega)) e_3544
                      have t_3547 : (I_3543 o 3).toInt = (I_3520 o 3).toInt := by rw [← e_3544, q_u_k (by decide)]
                      have t_3548 : (I_3543 o 4).toInt = (I_3520 o 4).toInt := by rw [← e_3544, q_u_k (by decide)]
                      have t_3549 : (I_3543 o 6).toInt = (I_3520 o 6).toInt := by rw [← e_3544, q_u_k (by decide)]
                      have t_3550 : (I_3543 o 7).toInt = (I_3520 o 7).toInt := by rw [← e_3544, q_u_k (by decide)]
                      have t_3551 : (I_3543 o 8).toInt = (I_3520 o 8).toInt := by rw [← e_3544, q_u_k (by decide)]
                      have t_3552 : (I_3543 o 9).toInt = (I_3520 o 9).toInt := by rw [← e_3544, q_u_k (by decide)]
                      have t_3553 : (I_3543 o 44).toInt = (I_3520 o 44).toInt := by rw [← e_3544, q_u_k (by decide)]
                      have t_3554 : (I_3543 o 45).toInt = (I_3520 o 45).toInt := by rw [← e_3544, q_u_k (by decide)]
                      have t_3555 : (I_3543 o 47).toInt = ((I_3520 o 47) + 1).toInt := by rw [← e_3544, q_u_at]
                      have t_3556 : (I_3543 o 48).toInt = (I_3520 o 48).toInt := by rw [← e_3544, q_u_k (by decide)]
                      have t_3557 : (I_3543 o 46).toInt = (I_3520 o 46).toInt := by rw [← e_3544, q_u_k (by decide)]
                      have k_3558 : MTd I_3543 o := k_3537.fr (by rw [← e_3544]; exact q_u_ne (by omega)) (by rw [← e_3544]; exact q_u_ne (by omega)) (by rw [← e_3544]; exact q_u_ne (by omega))
                      have k_3559 : MPo I_3543 o := k_3538.fr (by rw [← e_3544, q_u_k (by decide)]) (by rw [← e_3544, q_u_k (by decide)])
                      have k_3560 : MTk I_3543 o := k_3539.fr (by rw [← e_3544, q_u_k (by decide)]) (by rw [← e_3544, q_u_k (by decide)]) (by rw [← e_3544, q_u_k (by decide)])
                      have tk := k_3560.2 (by omega)
                      have k_3562 : EX 0 0 1 f0 1 I_3543 o := by exact EX.put47 k_3540 e_3544 (by omega)
                      refine y_Model_next hok hw ra hz16 hz17 hz18 hz19 (by first | omega | (intro h; omega) | exact Or.inl rfl | exact Or.inr rfl) hR_3545 (fun I_3572 L_3573 hR_3574 fr_3575 kp_3576 u_3564 u_3565 u_3566 u_3567 u_3568 u_3569 u_3570 u_3571 => ⟨I_3572, L_3573, rfl, rfl, ?_⟩)
                      have hf_3577 : Fm (fun c => c = o ∨ (o + 30 ≤ c ∧ c < o + 34)) I0 I_3572 := hf_3546.call fr_3575 (fun c hc => by first | exact hc | (dsimp only at hc ⊢; omega) | omega)
                      have t_3578 : (I_3572 o 3).toInt = (I_3543 o 3).toInt := by rw [kp_3576 3 rfl]
                      have t_3579 : (I_3572 o 4).toInt = (I_3543 o 4).toInt := by rw [kp_3576 4 rfl]
                      have g_3580 : (0 : Int) ≤ (I_3572 o 6).toInt ∧ (I_3572 o 6).toInt ≤ 1600 := hR_3574.at0 ra 6 (by decide)
                      have g_3581 : (0 : Int) ≤ (I_3572 o 7).toInt ∧ (I_3572 o 7).toInt ≤ 1601 := hR_3574.at0 ra 7 (by decide)
                      have g_3582 : (0 : Int) ≤ (I_3572 o 8).toInt ∧ (I_3572 o 8).toInt ≤ 6 := hR_3574.at0 ra 8 (by decide)
                      have t_3583 : (I_3572 o 44).toInt = (I_3543 o 44).toInt := by rw [kp_3576 44 rfl]
                      have t_3584 : (I_3572 o 45).toInt = (I_3543 o 45).toInt := by rw [kp_3576 45 rfl]
                      have t_3585 : (I_3572 o 47).toInt = (I_3543 o 47).toInt := by rw [kp_3576 47 rfl]
                      have t_3586 : (I_3572 o 48).toInt = (I_3543 o 48).toInt := by rw [kp_3576 48 rfl]
                      have t_3587 : (I_3572 o 46).toInt = (I_3543 o 46).toInt := by rw [kp_3576 46 rfl]
                      have k_3588 : MTd I_3572 o := k_3558.fr (fr_3575 _ (by first | omega | (dsimp only; omega))) (fr_3575 _ (by first | omega | (dsimp only; omega))) (fr_3575 _ (by first | omega | (dsimp only; omega)))
                      have ms := u_3567 (by omega)
                      have k_3589 : EX 0 0 0 f0 1 I_3572 o := by exact EX.nx k_3562 (fr_3575 _ (by first | omega | (dsimp only; omega))) (fr_3575 _ (by first | omega | (dsimp only; omega))) (fr_3575 _ (by first | omega | (dsimp only; omega))) (fr_3575 _ (by first | omega | (dsimp only; omega))) (fr_3575 _ (by first | omega | (dsimp only; omega))) (kp_3576 3 rfl) (kp_3576 44 rfl) (kp_3576 45 rfl) (kp_3576 47 rfl) (kp_3576 48 rfl) (by omega) (by omega)
                      exact (hp _ _ _ hR_3574 hf_3577 (Or.inr rfl) (by first | omega | (intro h; omega) | exact Or.inl rfl | exact Or.inr rfl) (by first | omega | (intro h; omega) | exact Or.inl rfl | exact Or.inr rfl) (by first | omega | (intro h; omega) | exact Or.inl rfl | exact Or.inr rfl) (by first | omega | (intro h; omega) | exact Or.inl rfl | exact Or.inr rfl) (by first | omega | (intro h; omega) | exact Or.inl rfl | exact Or.inr rfl) (by first | (intro h; exfalso; omega) | exact fun _ => k_3589 | exact fun _ => (False.elim (by omega))) k_3588 u_3570 u_3571)
                    · have d_3590 := iEq c_3513
                      have i_3591 := u_3511 (by omega)
                      exact (hp _ _ _ hR_3489 hf_3492 (Or.inr rfl) (by first | omega | (intro h; omega) | exact Or.inl rfl | exact Or.inr rfl) (by first | omega | (intro h; omega) | exact Or.inl rfl | exact Or.inr rfl) (by first | omega | (intro h; omega) | exact Or.inl rfl | exact Or.inr rfl) (by first | omega | (intro h; omega) | exact Or.inl rfl | exact Or.inr rfl) (by first | omega | (intro h; omega) | exact Or.inl rfl | exact Or.inr rfl) (by first | (intro h; exfalso; omega) | exact fun _ => k_3504 | exact fun _ => (False.elim (by omega))) k_3505 k_3506 k_3507)
              · have d_3592 := iEq c_3192
                have i_3593 := u_3190 (by omega)
                exact (hp _ _ _ hR_3168 hf_3171 (Or.inr rfl) (by first | omega | (intro h; omega) | exact Or.inl rfl | exact Or.inr rfl) (by first | omega | (intro h; omega) | exact Or.inl rfl | exact Or.inr rfl) (by first | omega | (intro h; omega) | exact Or.inl rfl | exact Or.inr rfl) (by first | omega | (intro h; omega) | exact Or.inl rfl | exact Or.inr rfl) (by first | omega | (intro h; omega) | exact Or.inl rfl | exact Or.inr rfl) (by first | (intro h; exfalso; omega) | exact fun _ => k_3183 | exact fun _ => (False.elim (by omega))) k_3184 k_3185 k_3186)
          · have d_3594 := iEq c_2747
            have g_3595 : (0 : Int) ≤ (I_2719 o 8).toInt ∧ (I_2719 o 8).toInt ≤ 6 := hR_2721.at0 ra 8 (by decide)
            have l_3596 : (4 : Int32).toInt = 4 := rfl
            refine ⟨fun c_3597 => ?_, fun c_3597 => ?_⟩
            · have d_3598 := iEq c_3597
              unfold fModel_unit_131
              have g_3599 : (0 : Int) ≤ (I_2719 o 46).toInt ∧ (I_2719 o 46).toInt ≤ 100 := hR_2721.at0 ra 46 (by decide)
              have l_3600 : (100 : Int32).toInt = 100 := rfl
              refine ⟨fun c_3601 => ?_, fun c_3601 => ?_⟩
              · have d_3602 := iNe c_3601
                refine y_Model_isGood hok hw ra hR_2721 (fun r_3603 u_3604 u_3605 u_3606 => ⟨r_3603, I_2719, L_2720, rfl, rfl, ?_⟩)
                have b_3607 : 0 ≤ r_3603.toInt ∧ r_3603.toInt ≤ 1 := u_3604.rg
                refine ⟨fun c_3608 => ?_, fun c_3608 => ?_⟩
                · have d_3609 := iNe c_3608
                  have i_3610 := u_3605 (by omega)
                  have g_3611 : (0 : Int) ≤ (I_2719 o 46).toInt ∧ (I_2719 o 46).toInt ≤ 100 := hR_2721.at0 ra 46 (by decide)
                  have a_3612 : ((I_2719 o 46) + 1).toInt = (I_2719 o 46).toInt + (1 : Int32).toInt := tAdd (by omega) (by omega)
                  refine fun I_3613 e_3614 => ?_
                  have hR_3615 : RI R I_3613 := hR_2721.up0 (k := 46) ra (by decide) (Or.inr hz56) e_3614 (show (0 : Int) ≤ ((I_2719 o 46) + 1).toInt by omega) (show ((I_2719 o 46) + 1).toInt ≤ (100 : Int) by omega)
                  have hf_3616 : Fm (fun c => c = o ∨ (o + 30 ≤ c ∧ c < o + 34)) I0 I_3613 := hf_2724.set (by first | rfl | omega | (dsimp only; omega)) e_3614
                  have t_3617 : (I_3613 o 3).toInt = (I_2719 o 3).toInt := by rw [← e_3614, q_u_k (by decide)]
                  have t_3618 : (I_3613 o 4).toInt = (I_2719 o 4).toInt := by rw [← e_3614, q_u_k (by decide)]
                  have t_3619 : (I_3613 o 6).toInt = (I_2719 o 6).toInt := by rw [← e_3614, q_u_k (by decide)]
                  have t_3620 : (I_3613 o 7).toInt = (I_2719 o 7).toInt := by rw [← e_3614, q_u_k (by decide)]
                  have t_3621 : (I_3613 o 8).toInt = (I_2719 o 8).toInt := by rw [← e_3614, q_u_k (by decide)]
                  have t_3622 : (I_3613 o 9).toInt = (I_2719 o 9).toInt := by rw [← e_3614, q_u_k (by decide)]
                  have t_3623 : (I_3613 o 44).toInt = (I_2719 o 44).toInt := by rw [← e_3614, q_u_k (by decide)]
                  have t_3624 : (I_3613 o 45).toInt = (I_2719 o 45).toInt := by rw [← e_3614, q_u_k (by decide)]
                  have t_3625 : (I_3613 o 47).toInt = (I_2719 o 47).toInt := by rw [← e_3614, q_u_k (by decide)]
                  have t_3626 : (I_3613 o 48).toInt = (I_2719 o 48).toInt := by rw [← e_3614, q_u_k (by decide)]
                  have t_3627 : (I_3613 o 46).toInt = ((I_2719 o 46) + 1).toInt := by rw [← e_3614, q_u_at]
                  have k_3628 : EX 0 0 0 f0 1 I_3613 o := k_2735.fr (by rw [← e_3614]; exact q_u_ne (by omega)) (by rw [← e_3614]; exact q_u_ne (by omega)) (by rw [← e_3614]; exact q_u_ne (by omega)) (by rw [← e_3614]; exact q_u_ne (by omega)) (by rw [← e_3614]; exact q_u_ne (by omega)) (by rw [← e_3614, q_u_k (by decide)]) (by rw [← e_3614, q_u_k (by decide)]) (by rw [← e_3614, q_u_k (by decide)]) (by rw [← e_3614, q_u_k (by decide)]) (by rw [← e_3614, q_u_k (by decide)]) (by rw [← e_3614, q_u_k (by decide)])
                  have k_3629 : MTd I_3613 o := k_2736.fr (by rw [← e_3614]; exact q_u_ne (by omega)) (by rw [← e_3614]; exact q_u_ne (by omega)) (by rw [← e_3614]; exact q_u_ne (by omega))
                  have k_3630 : MPo I_3613 o := k_2737.fr (by rw [← e_3614, q_u_k (by decide)]) (by rw [← e_3614, q_u_k (by decide)])
                  have k_3631 : MTk I_3613 o := k_2738.fr (by rw [← e_3614, q_u_k (by decide)]) (by rw [← e_3614, q_u_k (by decide)]) (by rw [← e_3614, q_u_k (by decide)])
                  have l_3632 : (40 : Int32).toInt = 40 := rfl
                  refine y_Model_is hok hw ra hR_3615 (fun r_3633 u_3634 u_3635 u_3636 => ⟨r_3633, I_3613, L_2720, rfl, rfl, ?_⟩)
                  have b_3637 : 0 ≤ r_3633.toInt ∧ r_3633.toInt ≤ 1 := u_3634.rg
                  refine ⟨fun c_3638 => ?_, fun c_3638 => ?_⟩
                  · have d_3639 := iEq c_3638
                    have cd := k_3628.cod
                    have tk := k_3631.2 (by omega)
                    refine ⟨fun c_3640 => ?_, fun c_3640 => ?_⟩
                    · have d_3641 := iNe c_3640
                      have i_3642 := u_2716 (by omega)
                      have i_3643 := u_2717 (by omega)
                      exfalso; omega
                    · have d_3644 := iEq c_3640
                      unfold fModel_unit_228
                      have l_3645 : (78 : Int32).toInt = 78 := rfl
                      refine ⟨fun c_3646 => ?_, fun c_3646 => ?_⟩
                      · have d_3647 := iNe c_3646
                        have i_3648 := u_2716 (by omega)
                        have i_3649 := u_2717 (by omega)
                        exfalso; omega
                      · have d_3650 := iEq c_3646
                        refine y_Model_step hok hw ra hz55 (by first | omega | (intro h; omega) | exact Or.inl rfl | exact Or.inr rfl) (by first | omega | (intro h; omega) | exact Or.inl rfl | exact Or.inr rfl) hR_3615 (fun I_3654 L_3655 hR_3656 fr_3657 kp_3658 u_3652 u_3653 => ⟨I_3654, L_3655, rfl, rfl, ?_⟩)
                        have hf_3659 : Fm (fun c => c = o ∨ (o + 30 ≤ c ∧ c < o + 34)) I0 I_3654 := hf_3616.call fr_3657 (fun c hc => by first | exact hc | (dsimp only at hc ⊢; omega) | omega)
                        have t_3660 : (I_3654 o 3).toInt = (I_3613 o 3).toInt := by rw [kp_3658 3 rfl]
                        have t_3661 : (I_3654 o 4).toInt = (I_3613 o 4).toInt := by rw [kp_3658 4 rfl]
                        have t_3662 : (I_3654 o 6).toInt = (I_3613 o 6).toInt := by rw [kp_3658 6 rfl]
                        have t_3663 : (I_3654 o 7).toInt = (I_3613 o 7).toInt := by rw [kp_3658 7 rfl]
                        have t_3664 : (I_3654 o 8).toInt = (I_3613 o 8).toInt := by rw [kp_3658 8 rfl]
                        have t_3665 : (I_3654 o 9).toInt = (I_3613 o 9).toInt := by rw [kp_3658 9 rfl]
                        have t_3666 : (I_3654 o 44).toInt = (I_3613 o 44).toInt := by rw [kp_3658 44 rfl]
                        have g_3667 : (0 : Int) ≤ (I_3654 o 45).toInt ∧ (I_3654 o 45).toInt ≤ 700 := hR_3656.at0 ra 45 (by decide)
                        have t_3668 : (I_3654 o 47).toInt = (I_3613 o 47).toInt := by rw [kp_3658 47 rfl]
                        have t_3669 : (I_3654 o 48).toInt = (I_3613 o 48).toInt := by rw [kp_3658 48 rfl]
                        have t_3670 : (I_3654 o 46).toInt = (I_3613 o 46).toInt := by rw [kp_3658 46 rfl]
                        have k_3671 : MPo I_3654 o := k_3630.fr (kp_3658 8 rfl) (kp_3658 9 rfl)
                        have k_3672 : MTk I_3654 o := k_3631.fr (kp_3658 6 rfl) (kp_3658 7 rfl) (kp_3658 8 rfl)
                        have tk := k_3672.2 (by omega)
                        have k_3673 : EX 0 0 1 f0 0 I_3654 o := by exact EX.step1 k_3628 (by first | exact u_2716 (by omega) | (unfold isT; decide)) (by omega) (fr_3657 _ (by first | omega | (dsimp only; omega))) (fr_3657 _ (by first | omega | (dsimp only; omega))) u_3652 (fr_3657 _ (by first | omega | (dsimp only; omega))) (fr_3657 _ (by first | omega | (dsimp only; omega))) (kp_3658 3 rfl) (kp_3658 6 rfl) (kp_3658 44 rfl) u_3653 (kp_3658 47 rfl) (kp_3658 48 rfl)
                        have k_3674 : MTd I_3654 o := by exact MTd.step k_3629 (fr_3657 _ (by first | omega | (dsimp only; omega))) (fr_3657 _ (by first | omega | (dsimp only; omega))) u_3652 (by omega)
                        refine y_Model_next hok hw ra hz16 hz17 hz18 hz19 (by first | omega | (intro h; omega) | exact Or.inl rfl | exact Or.inr rfl) hR_3656 (fun I_3684 L_3685 hR_3686 fr_3687 kp_3688 u_3676 u_3677 u_3678 u_3679 u_3680 u_3681 u_3682 u_3683 => ⟨I_3684, L_3685, rfl, rfl, ?_⟩)
                        have hf_3689 : Fm (fun c => c = o ∨ (o + 30 ≤ c ∧ c < o + 34)) I0 I_3684 := hf_3659.call fr_3687 (fun c hc => by first | exact hc | (dsimp only at hc ⊢; omega) | omega)
                        have t_3690 : (I_3684 o 3).toInt = (I_3654 o 3).toInt := by rw [kp_3688 3 rfl]
                        have t_3691 : (I_3684 o 4).toInt = (I_3654 o 4).toInt := by rw [kp_3688 4 rfl]
                        have g_3692 : (0 : Int) ≤ (I_3684 o 6).toInt ∧ (I_3684 o 6).toInt ≤ 1600 := hR_3686.at0 ra 6 (by decide)
                        have g_3693 : (0 : Int) ≤ (I_3684 o 7).toInt ∧ (I_3684 o 7).toInt ≤ 1601 := hR_3686.at0 ra 7 (by decide)
                        have g_3694 : (0 : Int) ≤ (I_3684 o 8).toInt ∧ (I_3684 o 8).toInt ≤ 6 := hR_3686.at0 ra 8 (by decide)
                        have t_3695 : (I_3684 o 44).toInt = (I_3654 o 44).toInt := by rw [kp_3688 44 rfl]
                        have t_3696 : (I_3684 o 45).toInt = (I_3654 o 45).toInt := by rw [kp_3688 45 rfl]
                        have t_3697 : (I_3684 o 47).toInt = (I_3654 o 47).toInt := by rw [kp_3688 47 rfl]
                        have t_3698 : (I_3684 o 48).toInt = (I_3654 o 48).toInt := by rw [kp_3688 48 rfl]
                        have t_3699 : (I_3684 o 46).toInt = (I_3654 o 46).toInt := by rw [kp_3688 46 rfl]
                        have k_3700 : MTd I_3684 o := k_3674.fr (fr_3687 _ (by first | omega | (dsimp only; omega))) (fr_3687 _ (by first | omega | (dsimp only; omega))) (fr_3687 _ (by first | omega | (dsimp only; omega)))
                        have ms := u_3679 (by omega)
                        have k_3701 : EX 0 0 0 f0 0 I_3684 o := by exact EX.nx k_3673 (fr_3687 _ (by first | omega | (dsimp only; omega))) (fr_3687 _ (by first | omega | (dsimp only; omega))) (fr_3687 _ (by first | omega | (dsimp only; omega))) (fr_3687 _ (by first | omega | (dsimp only; omega))) (fr_3687 _ (by first | omega | (dsimp only; omega))) (kp_3688 3 rfl) (kp_3688 44 rfl) (kp_3688 45 rfl) (kp_3688 47 rfl) (kp_3688 48 rfl) (by omega) (by omega)
                        exact (hp _ _ _ hR_3686 hf_3689 (Or.inl rfl) (by first | omega | (intro h; omega) | exact Or.inl rfl | exact Or.inr rfl) (by first | omega | (intro h; omega) | exact Or.inl rfl | exact Or.inr rfl) (by first | omega | (intro h; omega) | exact Or.inl rfl | exact Or.inr rfl) (by first | omega | (intro h; omega) | exact Or.inl rfl | exact Or.inr rfl) (by first | omega | (intro h; omega) | exact Or.inl rfl | exact Or.inr rfl) (by first | (intro h; exfalso; omega) | exact fun _ => (False.elim (by omega)) | exact fun _ => k_3701) k_3700 u_3682 u_3683)
                  · have d_3702 := iNe c_3638
                    have i_3703 := u_3635 (by omega)
                    have i_3704 := u_3636 (by omega)
                    have g_3705 : (0 : Int) ≤ (I_3613 o 47).toInt ∧ (I_3613 o 47).toInt ≤ 7 := hR_3615.at0 ra 47 (by decide)
                    refine ⟨fun c_3706 => ?_, fun c_3706 => ?_⟩
                    · have d_3707 := iNe c_3706
                      refine y_Model_isGood hok hw ra hR_3615 (fun r_3708 u_3709 u_3710 u_3711 => ⟨r_3708, I_3613, L_2720, rfl, rfl, ?_⟩)
                      have b_3712 : 0 ≤ r_3708.toInt ∧ r_3708.toInt ≤ 1 := u_3709.rg
                      refine ⟨fun c_3713 => ?_, fun c_3713 => ?_⟩
                      · have d_3714 := iNe c_3713
                        have i_3715 := u_3710 (by omega)
                        refine y_Model_pile hok hw ra hz58 (by first | omega | (intro h; omega) | exact Or.inl rfl | exact Or.inr rfl) (by first | omega | (intro h; omega) | exact Or.inl rfl | exact Or.inr rfl) hR_3615 (fun I_3720 L_3721 hR_3722 fr_3723 kp_3724 u_3717 u_3718 u_3719 => ⟨I_3720, L_3721, rfl, rfl, ?_⟩)
                        have hf_3725 : Fm (fun c => c = o ∨ (o + 30 ≤ c ∧ c < o + 34)) I0 I_3720 := hf_3616.call fr_3723 (fun c hc => by first | exact hc | (dsimp only at hc ⊢; omega) | omega)
                        have t_3726 : (I_3720 o 3).toInt = (I_3613 o 3).toInt := by rw [kp_3724 3 rfl]
                        have t_3727 : (I_3720 o 4).toInt = (I_3613 o 4).toInt := by rw [kp_3724 4 rfl]
                        have t_3728 : (I_3720 o 6).toInt = (I_3613 o 6).toInt := by rw [kp_3724 6 rfl]
                        have t_3729 : (I_3720 o 7).toInt = (I_3613 o 7).toInt := by rw [kp_3724 7 rfl]
                        have t_3730 : (I_3720 o 8).toInt = (I_3613 o 8).toInt := by rw [kp_3724 8 rfl]
                        have t_3731 : (I_3720 o 9).toInt = (I_3613 o 9).toInt := by rw [kp_3724 9 rfl]
                        have t_3732 : (I_3720 o 44).toInt = (I_3613 o 44).toInt := by rw [kp_3724 44 rfl]
                        have t_3733 : (I_3720 o 45).toInt = (I_3613 o 45).toInt := by rw [kp_3724 45 rfl]
                        have t_3734 : (I_3720 o 47).toInt = (I_3613 o 47).toInt := by rw [kp_3724 47 rfl]
                        have g_3735 : (0 : Int) ≤ (I_3720 o 48).toInt ∧ (I_3720 o 48).toInt ≤ 80 := hR_3722.at0 ra 48 (by decide)
                        have t_3736 : (I_3720 o 46).toInt = (I_3613 o 46).toInt := by rw [kp_3724 46 rfl]
                        have k_3737 : MTd I_3720 o := k_3629.fr (fr_3723 _ (by first | omega | (dsimp only; omega))) (fr_3723 _ (by first | omega | (dsimp only; omega))) (fr_3723 _ (by first | omega | (dsimp only; omega)))
                        have k_3738 : MPo I_3720 o := k_3630.fr (kp_3724 8 rfl) (kp_3724 9 rfl)
                        have k_3739 : MTk I_3720 o := k_3631.fr (kp_3724 6 rfl) (kp_3724 7 rfl) (kp_3724 8 rfl)
                        have k_3740 : EX 0 1 1 f0 1 I_3720 o := by have z := EX.push k_3628 (v := 7) (s := 0) (dB := 1) (dO := 0) (wt' := 1) (by decide) (by decide) (by decide) (by omega) ⟨by decide, by decide⟩ ⟨fun h => absurd h (by decide), fun h => absurd h (by decide)⟩ (Or.inl rfl) (fr_3723 _ (by first | omega | (dsimp only; omega))) (fr_3723 _ (by first | omega | (dsimp only; omega))) (fr_3723 _ (by first | omega | (dsimp only; omega))) u_3717 u_3718 (kp_3724 3 rfl) (kp_3724 6 rfl) (kp_3724 44 rfl) (kp_3724 45 rfl) (kp_3724 47 rfl) u_3719; exact EX.chg (b' := 1) z rfl rfl rfl rfl rfl rfl rfl rfl rfl rfl (by omega) z.pl
                        have g_3741 : (0 : Int) ≤ (I_3720 o 47).toInt ∧ (I_3720 o 47).toInt ≤ 7 := hR_3722.at0 ra 47 (by decide)
                        have a_3742 : ((I_3720 o 47) + 1).toInt = (I_3720 o 47).toInt + (1 : Int32).toInt := tAdd (by omega) (by omega)
                        refine fun I_3743 e_3744 => ?_
                        have hR_3745 : RI R I_3743 := hR_3722.up0 (k := 47) ra (by decide) (Or.inr hz57) e_3744 (show (0 : Int) ≤ ((I_3720 o 47) + 1).toInt by omega) (show ((I_3720 o 47) + 1).toInt ≤ (7 : Int) by omega)
                        have hf_3746 : Fm (fun c => c = o ∨ (o + 30 ≤ c ∧ c < o + 34)) I0 I_3743 := hf_3725.set (by first | rfl | omega | (dsimp only; omega)) e_3744
                        have t_3747 : (I_3743 o 3).toInt = (I_3720 o 3).toInt := by rw [← e_3744, q_u_k (by decide)]
                        have t_3748 : (I_3743 o 4).toInt = (I_3720 o 4).toInt := by rw [← e_3744, q_u_k (by decide)]
                        have t_3749 : (I_3743 o 6).toInt = (I_3720 o 6).toInt := by rw [← e_3744, q_u_k (by decide)]
                        have t_3750 : (I_3743 o 7).toInt = (I_3720 o 7).toInt := by rw [← e_3744, q_u_k (by decide)]
                        have t_3751 : (I_3743 o 8).toInt = (I_3720 o 8).toInt := by rw [← e_3744, q_u_k (by decide)]
                        have t_3752 : (I_3743 o 9).toInt = (I_3720 o 9).toInt := by rw [← e_3744, q_u_k (by decide)]
                        have t_3753 : (I_3743 o 44).toInt = (I_3720 o 44).toInt := by rw [← e_3744, q_u_k (by decide)]
                        have t_3754 : (I_3743 o 45).toInt = (I_3720 o 45).toInt := by rw [← e_3744, q_u_k (by decide)]
                        have t_3755 : (I_3743 o 47).toInt = ((I_3720 o 47) + 1).toInt := by rw [← e_3744, q_u_at]
                        have t_3756 : (I_3743 o 48).toInt = (I_3720 o 48).toInt := by rw [← e_3744, q_u_k (by decide)]
                        have t_3757 : (I_3743 o 46).toInt = (I_3720 o 46).toInt := by rw [← e_3744, q_u_k (by decide)]
                        have k_3758 : MTd I_3743 o := k_3737.fr (by rw [← e_3744]; exact q_u_ne (by omega)) (by rw [← e_3744]; exact q_u_ne (by omega)) (by rw [← e_3744]; exact q_u_ne (by omega))
                        have k_3759 : MPo I_3743 o := k_3738.fr (by rw [← e_3744, q_u_k (by decide)]) (by rw [← e_3744, q_u_k (by decide)])
                        have k_3760 : MTk I_3743 o := k_3739.fr (by rw [← e_3744, q_u_k (by decide)]) (by rw [← e_3744, q_u_k (by decide)]) (by rw [← e_3744, q_u_k (by decide)])
                        have tk := k_3760.2 (by omega)
                        have k_3762 : EX 0 0 1 f0 1 I_3743 o := by exact EX.put47 k_3740 e_3744 (by omega)
                        refine y_Model_next hok hw ra hz16 hz17 hz18 hz19 (by first | omega | (intro h; omega) | exact Or.inl rfl | exact Or.inr rfl) hR_3745 (fun I_3772 L_3773 hR_3774 fr_3775 kp_3776 u_3764 u_3765 u_3766 u_3767 u_3768 u_3769 u_3770 u_3771 => ⟨I_3772, L_3773, rfl, rfl, ?_⟩)
                        have hf_3777 : Fm (fun c => c = o ∨ (o + 30 ≤ c ∧ c < o + 34)) I0 I_3772 := hf_3746.call fr_3775 (fun c hc => by first | exact hc | (dsimp only at hc ⊢; omega) | omega)
                        have t_3778 : (I_3772 o 3).toInt = (I_3743 o 3).toInt := by rw [kp_3776 3 rfl]
                        have t_3779 : (I_3772 o 4).toInt = (I_3743 o 4).toInt := by rw [kp_3776 4 rfl]
                        have g_3780 : (0 : Int) ≤ (I_3772 o 6).toInt ∧ (I_3772 o 6).toInt ≤ 1600 := hR_3774.at0 ra 6 (by decide)
                        have g_3781 : (0 : Int) ≤ (I_3772 o 7).toInt ∧ (I_3772 o 7).toInt ≤ 1601 := hR_3774.at0 ra 7 (by decide)
                        have g_3782 : (0 : Int) ≤ (I_3772 o 8).toInt ∧ (I_3772 o 8).toInt ≤ 6 := hR_3774.at0 ra 8 (by decide)
                        have t_3783 : (I_3772 o 44).toInt = (I_3743 o 44).toInt := by rw [kp_3776 44 rfl]
                        have t_3784 : (I_3772 o 45).toInt = (I_3743 o 45).toInt := by rw [kp_3776 45 rfl]
                        have t_3785 : (I_3772 o 47).toInt = (I_3743 o 47).toInt := by rw [kp_3776 47 rfl]
                        have t_3786 : (I_3772 o 48).toInt = (I_3743 o 48).toInt := by rw [kp_3776 48 rfl]
                        have t_3787 : (I_3772 o 46).toInt = (I_3743 o 46).toInt := by rw [kp_3776 46 rfl]
                        have k_3788 : MTd I_3772 o := k_3758.fr (fr_3775 _ (by first | omega | (dsimp only; omega))) (fr_3775 _ (by first | omega | (dsimp only; omega))) (fr_3775 _ (by first | omega | (dsimp only; omega)))
                        have ms := u_3767 (by omega)
                        have k_3789 : EX 0 0 0 f0 1 I_3772 o := by exact EX.nx k_3762 (fr_3775 _ (by first | omega | (dsimp only; omega))) (fr_3775 _ (by first | omega | (dsimp only; omega))) (fr_3775 _ (by first | omega | (dsimp only; omega))) (fr_3775 _ (by first | omega | (dsimp only; omega))) (fr_3775 _ (by first | omega | (dsimp only; omega))) (kp_3776 3 rfl) (kp_3776 44 rfl) (kp_3776 45 rfl) (kp_3776 47 rfl) (kp_3776 48 rfl) (by omega) (by omega)
                        exact (hp _ _ _ hR_3774 hf_3777 (Or.inr rfl) (by first | omega | (intro h; omega) | exact Or.inl rfl | exact Or.inr rfl) (by first | omega | (intro h; omega) | exact Or.inl rfl | exact Or.inr rfl) (by first | omega | (intro h; omega) | exact Or.inl rfl | exact Or.inr rfl) (by first | omega | (intro h; omega) | exact Or.inl rfl | exact Or.inr rfl) (by first | omega | (intro h; omega) | exact Or.inl rfl | exact Or.inr rfl) (by first | (intro h; exfalso; omega) | exact fun _ => k_3789 | exact fun _ => (False.elim (by omega))) k_3788 u_3770 u_3771)
                      · have d_3790 := iEq c_3713
                        have i_3791 := u_3711 (by omega)
                        exact (hp _ _ _ hR_3615 hf_3616 (Or.inr rfl) (by first | omega | (intro h; omega) | exact Or.inl rfl | exact Or.inr rfl) (by first | omega | (intro h; omega) | exact Or.inl rfl | exact Or.inr rfl) (by first | omega | (intro h; omega) | exact Or.inl rfl | exact Or.inr rfl) (by first | omega | (intro h; omega) | exact Or.inl rfl | exact Or.inr rfl) (by first | omega | (intro h; omega) | exact Or.inl rfl | exact Or.inr rfl) (by first | (intro h; exfalso; omega) | exact fun _ => k_3628 | exact fun _ => (False.elim (by omega))) k_3629 k_3630 k_3631)
                    · have d_3792 := iEq c_3706
                      refine y_Model_wrong hok hw ra hz14 hz15 hR_3615 (fun I_3796 L_3797 hR_3798 fr_3799 kp_3800 u_3794 u_3795 => ⟨I_3796, L_3797, rfl, rfl, ?_⟩)
                      have hf_3801 : Fm (fun c => c = o ∨ (o + 30 ≤ c ∧ c < o + 34)) I0 I_3796 := hf_3616.call fr_3799 (fun c hc => by first | exact hc | (dsimp only at hc ⊢; omega) | omega)
                      have t_3802 : (I_3796 o 3).toInt = (I_3613 o 3).toInt := by rw [kp_3800 3 rfl]
                      have g_3803 : (0 : Int) ≤ (I_3796 o 4).toInt ∧ (I_3796 o 4).toInt ≤ 5 := hR_3798.at0 ra 4 (by decide)
                      have t_3804 : (I_3796 o 6).toInt = (I_3613 o 6).toInt := by rw [kp_3800 6 rfl]
                      have t_3805 : (I_3796 o 7).toInt = (I_3613 o 7).toInt := by rw [kp_3800 7 rfl]
                      have t_3806 : (I_3796 o 8).toInt = (I_3613 o 8).toInt := by rw [kp_3800 8 rfl]
                      have t_3807 : (I_3796 o 9).toInt = (I_3613 o 9).toInt := by rw [kp_3800 9 rfl]
                      have t_3808 : (I_3796 o 44).toInt = (I_3613 o 44).toInt := by rw [kp_3800 44 rfl]
                      have t_3809 : (I_3796 o 45).toInt = (I_3613 o 45).toInt := by rw [kp_3800 45 rfl]
                      have t_3810 : (I_3796 o 47).toInt = (I_3613 o 47).toInt := by rw [kp_3800 47 rfl]
                      have t_3811 : (I_3796 o 48).toInt = (I_3613 o 48).toInt := by rw [kp_3800 48 rfl]
                      have t_3812 : (I_3796 o 46).toInt = (I_3613 o 46).toInt := by rw [kp_3800 46 rfl]
                      have k_3813 : EX 0 0 0 f0 1 I_3796 o := k_3628.fr (fr_3799 _ (by first | omega | (dsimp only; omega))) (fr_3799 _ (by first | omega | (dsimp only; omega))) (fr_3799 _ (by first | omega | (dsimp only; omega))) (fr_3799 _ (by first | omega | (dsimp only; omega))) (fr_3799 _ (by first | omega | (dsimp only; omega))) (kp_3800 3 rfl) (kp_3800 6 rfl) (kp_3800 44 rfl) (kp_3800 45 rfl) (kp_3800 47 rfl) (kp_3800 48 rfl)
                      have k_3814 : MTd I_3796 o := k_3629.fr (fr_3799 _ (by first | omega | (dsimp only; omega))) (fr_3799 _ (by first | omega | (dsimp only; omega))) (fr_3799 _ (by first | omega | (dsimp only; omega)))
                      have k_3815 : MPo I_3796 o := k_3630.fr (kp_3800 8 rfl) (kp_3800 9 rfl)
                      have k_3816 : MTk I_3796 o := k_3631.fr (kp_3800 6 rfl) (kp_3800 7 rfl) (kp_3800 8 rfl)
                      refine y_Model_isGood hok hw ra hR_3798 (fun r_3817 u_3818 u_3819 u_3820 => ⟨r_3817, I_3796, L_3797, rfl, rfl, ?_⟩)
                      have b_3821 : 0 ≤ r_3817.toInt ∧ r_3817.toInt ≤ 1 := u_3818.rg
                      refine ⟨fun c_3822 => ?_, fun c_3822 => ?_⟩
                      · have d_3823 := iNe c_3822
                        have i_3824 := u_3819 (by omega)
                        refine y_Model_pile hok hw ra hz58 (by first | omega | (intro h; omega) | exact Or.inl rfl | exact Or.inr rfl) (by first | omega | (intro h; omega) | exact Or.inl rfl | exact Or.inr rfl) hR_3798 (fun I_3829 L_3830 hR_3831 fr_3832 kp_3833 u_3826 u_3827 u_3828 => ⟨I_3829, L_3830, rfl, rfl, ?_⟩)
                        have hf_3834 : Fm (fun c => c = o ∨ (o + 30 ≤ c ∧ c < o + 34)) I0 I_3829 := hf_3801.call fr_3832 (fun c hc => by first | exact hc | (dsimp only at hc ⊢; omega) | omega)
                        have t_3835 : (I_3829 o 3).toInt = (I_3796 o 3).toInt := by rw [kp_3833 3 rfl]
                        have t_3836 : (I_3829 o 4).toInt = (I_3796 o 4).toInt := by rw [kp_3833 4 rfl]
                        have t_3837 : (I_3829 o 6).toInt = (I_3796 o 6).toInt := by rw [kp_3833 6 rfl]
                        have t_3838 : (I_3829 o 7).toInt = (I_3796 o 7).toInt := by rw [kp_3833 7 rfl]
                        have t_3839 : (I_3829 o 8).toInt = (I_3796 o 8).toInt := by rw [kp_3833 8 rfl]
                        have t_3840 : (I_3829 o 9).toInt = (I_3796 o 9).toInt := by rw [kp_3833 9 rfl]
                        have t_3841 : (I_3829 o 44).toInt = (I_3796 o 44).toInt := by rw [kp_3833 44 rfl]
                        have t_3842 : (I_3829 o 45).toInt = (I_3796 o 45).toInt := by rw [kp_3833 45 rfl]
                        have t_3843 : (I_3829 o 47).toInt = (I_3796 o 47).toInt := by rw [kp_3833 47 rfl]
                        have g_3844 : (0 : Int) ≤ (I_3829 o 48).toInt ∧ (I_3829 o 48).toInt ≤ 80 := hR_3831.at0 ra 48 (by decide)
                        have t_3845 : (I_3829 o 46).toInt = (I_3796 o 46).toInt := by rw [kp_3833 46 rfl]
                        have k_3846 : MTd I_3829 o := k_3814.fr (fr_3832 _ (by first | omega | (dsimp only; omega))) (fr_3832 _ (by first | omega | (dsimp only; omega))) (fr_3832 _ (by first | omega | (dsimp only; omega)))
                        have k_3847 : MPo I_3829 o := k_3815.fr (kp_3833 8 rfl) (kp_3833 9 rfl)
                        have k_3848 : MTk I_3829 o := k_3816.fr (kp_3833 6 rfl) (kp_3833 7 rfl) (kp_3833 8 rfl)
                        have k_3849 : EX 0 1 1 f0 1 I_3829 o := by have z := EX.push k_3813 (v := 7) (s := 0) (dB := 1) (dO := 0) (wt' := 1) (by decide) (by decide) (by decide) (by omega) ⟨by decide, by decide⟩ ⟨fun h => absurd h (by decide), fun h => absurd h (by decide)⟩ (Or.inl rfl) (fr_3832 _ (by first | omega | (dsimp only; omega))) (fr_3832 _ (by first | omega | (dsimp only; omega))) (fr_3832 _ (by first | omega | (dsimp only; omega))) u_3826 u_3827 (kp_3833 3 rfl) (kp_3833 6 rfl) (kp_3833 44 rfl) (kp_3833 45 rfl) (kp_3833 47 rfl) u_3828; exact EX.chg (b' := 1) z rfl rfl rfl rfl rfl rfl rfl rfl rfl rfl (by omega) z.pl
                        have g_3850 : (0 : Int) ≤ (I_3829 o 47).toInt ∧ (I_3829 o 47).toInt ≤ 7 := hR_3831.at0 ra 47 (by decide)
                        have a_3851 : ((I_3829 o 47) + 1).toInt = (I_3829 o 47).toInt + (1 : Int32).toInt := tAdd (by omega) (by omega)
                        refine fun I_3852 e_3853 => ?_
                        have hR_3854 : RI R I_3852 := hR_3831.up0 (k := 47) ra (by decide) (Or.inr hz57) e_3853 (show (0 : Int) ≤ ((I_3829 o 47) + 1).toInt by omega) (show ((I_3829 o 47) + 1).toInt ≤ (7 : Int) by omega)
                        have hf_3855 : Fm (fun c => c = o ∨ (o + 30 ≤ c ∧ c < o + 34)) I0 I_3852 := hf_3834.set (by first | rfl | omega | (dsimp only; omega)) e_3853
                        have t_3856 : (I_3852 o 3).toInt = (I_3829 o 3).toInt := by rw [← e_3853, q_u_k (by decide)]
                        have t_3857 : (I_3852 o 4).toInt = (I_3829 o 4).toInt := by rw [← e_3853, q_u_k (by decide)]
                        have t_3858 : (I_3852 o 6).toInt = (I_3829 o 6).toInt := by rw [← e_3853, q_u_k (by decide)]
                        have t_3859 : (I_3852 o 7).toInt = (I_3829 o 7).toInt := by rw [← e_3853, q_u_k (by decide)]
                        have t_3860 : (I_3852 o 8).toInt = (I_3829 o 8).toInt := by rw [← e_3853, q_u_k (by decide)]
                        have t_3861 : (I_3852 o 9).toInt = (I_3829 o 9).toInt := by rw [← e_3853, q_u_k (by decide)]
                        have t_3862 : (I_3852 o 44).toInt = (I_3829 o 44).toInt := by rw [← e_3853, q_u_k (by decide)]
                        have t_3863 : (I_3852 o 45).toInt = (I_3829 o 45).toInt := by rw [← e_3853, q_u_k (by decide)]
                        have t_3864 : (I_3852 o 47).toInt = ((I_3829 o 47) + 1).toInt := by rw [← e_3853, q_u_at]
                        have t_3865 : (I_3852 o 48).toInt = (I_3829 o 48).toInt := by rw [← e_3853, q_u_k (by decide)]
                        have t_3866 : (I_3852 o 46).toInt = (I_3829 o 46).toInt := by rw [← e_3853, q_u_k (by decide)]
                        have k_3867 : MTd I_3852 o := k_3846.fr (by rw [← e_3853]; exact q_u_ne (by omega)) (by rw [← e_3853]; exact q_u_ne (by omega)) (by rw [← e_3853]; exact q_u_ne (by omega))
                        have k_3868 : MPo I_3852 o := k_3847.fr (by rw [← e_3853, q_u_k (by decide)]) (by rw [← e_3853, q_u_k (by decide)])
                        have k_3869 : MTk I_3852 o := k_3848.fr (by rw [← e_3853, q_u_k (by decide)]) (by rw [← e_3853, q_u_k (by decide)]) (by rw [← e_3853, q_u_k (by decide)])
                        have tk := k_3869.2 (by omega)
                        have k_3871 : EX 0 0 1 f0 1 I_3852 o := by exact EX.put47 k_3849 e_3853 (by omega)
                        refine y_Model_next hok hw ra hz16 hz17 hz18 hz19 (by first | omega | (intro h; omega) | exact Or.inl rfl | exact Or.inr rfl) hR_3854 (fun I_3881 L_3882 hR_3883 fr_3884 kp_3885 u_3873 u_3874 u_3875 u_3876 u_3877 u_3878 u_3879 u_3880 => ⟨I_3881, L_3882, rfl, rfl, ?_⟩)
                        have hf_3886 : Fm (fun c => c = o ∨ (o + 30 ≤ c ∧ c < o + 34)) I0 I_3881 := hf_3855.call fr_3884 (fun c hc => by first | exact hc | (dsimp only at hc ⊢; omega) | omega)
                        have t_3887 : (I_3881 o 3).toInt = (I_3852 o 3).toInt := by rw [kp_3885 3 rfl]
                        have t_3888 : (I_3881 o 4).toInt = (I_3852 o 4).toInt := by rw [kp_3885 4 rfl]
                        have g_3889 : (0 : Int) ≤ (I_3881 o 6).toInt ∧ (I_3881 o 6).toInt ≤ 1600 := hR_3883.at0 ra 6 (by decide)
                        have g_3890 : (0 : Int) ≤ (I_3881 o 7).toInt ∧ (I_3881 o 7).toInt ≤ 1601 := hR_3883.at0 ra 7 (by decide)
                        have g_3891 : (0 : Int) ≤ (I_3881 o 8).toInt ∧ (I_3881 o 8).toInt ≤ 6 := hR_3883.at0 ra 8 (by decide)
                        have t_3892 : (I_3881 o 44).toInt = (I_3852 o 44).toInt := by rw [kp_3885 44 rfl]
                        have t_3893 : (I_3881 o 45).toInt = (I_3852 o 45).toInt := by rw [kp_3885 45 rfl]
                        have t_3894 : (I_3881 o 47).toInt = (I_3852 o 47).toInt := by rw [kp_3885 47 rfl]
                        have t_3895 : (I_3881 o 48).toInt = (I_3852 o 48).toInt := by rw [kp_3885 48 rfl]
                        have t_3896 : (I_3881 o 46).toInt = (I_3852 o 46).toInt := by rw [kp_3885 46 rfl]
                        have k_3897 : MTd I_3881 o := k_3867.fr (fr_3884 _ (by first | omega | (dsimp only; omega))) (fr_3884 _ (by first | omega | (dsimp only; omega))) (fr_3884 _ (by first | omega | (dsimp only; omega)))
                        have ms := u_3876 (by omega)
                        have k_3898 : EX 0 0 0 f0 1 I_3881 o := by exact EX.nx k_3871 (fr_3884 _ (by first | omega | (dsimp only; omega))) (fr_3884 _ (by first | omega | (dsimp only; omega))) (fr_3884 _ (by first | omega | (dsimp only; omega))) (fr_3884 _ (by first | omega | (dsimp only; omega))) (fr_3884 _ (by first | omega | (dsimp only; omega))) (kp_3885 3 rfl) (kp_3885 44 rfl) (kp_3885 45 rfl) (kp_3885 47 rfl) (kp_3885 48 rfl) (by omega) (by omega)
                        exact (hp _ _ _ hR_3883 hf_3886 (Or.inr rfl) (by first | omega | (intro h; omega) | exact Or.inl rfl | exact Or.inr rfl) (by first | omega | (intro h; omega) | exact Or.inl rfl | exact Or.inr rfl) (by first | omega | (intro h; omega) | exact Or.inl rfl | exact Or.inr rfl) (by first | omega | (intro h; omega) | exact Or.inl rfl | exact Or.inr rfl) (by first | omega | (intro h; omega) | exact Or.inl rfl | exact Or.inr rfl) (by first | (intro h; exfalso; omega) | exact fun _ => k_3898 | exact fun _ => (False.elim (by omega))) k_3897 u_3879 u_3880)
                      · have d_3899 := iEq c_3822
                        have i_3900 := u_3820 (by omega)
                        exact (hp _ _ _ hR_3798 hf_3801 (Or.inr rfl) (by first | omega | (intro h; omega) | exact Or.inl rfl | exact Or.inr rfl) (by first | omega | (intro h; omega) | exact Or.inl rfl | exact Or.inr rfl) (by first | omega | (intro h; omega) | exact Or.inl rfl | exact Or.inr rfl) (by first | omega | (intro h; omega) | exact Or.inl rfl | exact Or.inr rfl) (by first | omega | (intro h; omega) | exact Or.inl rfl | exact Or.inr rfl) (by first | (intro h; exfalso; omega) | exact fun _ => k_3813 | exact fun _ => (False.elim (by omega))) k_3814 k_3815 k_3816)
                · have d_3901 := iEq c_3608
                  have i_3902 := u_3606 (by omega)
                  exact (hp _ _ _ hR_2721 hf_2724 (Or.inr rfl) (by first | omega | (intro h; omega) | exact Or.inl rfl | exact Or.inr rfl) (by first | omega | (intro h; omega) | exact Or.inl rfl | exact Or.inr rfl) (by first | omega | (intro h; omega) | exact Or.inl rfl | exact Or.inr rfl) (by first | omega | (intro h; omega) | exact Or.inl rfl | exact Or.inr rfl) (by first | omega | (intro h; omega) | exact Or.inl rfl | exact Or.inr rfl) (by first | (intro h; exfalso; omega) | exact fun _ => k_2735 | exact fun _ => (False.elim (by omega))) k_2736 k_2737 k_2738)
              · have d_3903 := iEq c_3601
                unfold fModel_unit_140
                refine y_Model_wrong hok hw ra hz14 hz15 hR_2721 (fun I_3907 L_3908 hR_3909 fr_3910 kp_3911 u_3905 u_3906 => ⟨I_3907, L_3908, rfl, rfl, ?_⟩)
                have hf_3912 : Fm (fun c => c = o ∨ (o + 30 ≤ c ∧ c < o + 34)) I0 I_3907 := hf_2724.call fr_3910 (fun c hc => by first | exact hc | (dsimp only at hc ⊢; omega) | omega)
                have t_3913 : (I_3907 o 3).toInt = (I_2719 o 3).toInt := by rw [kp_3911 3 rfl]
                have g_3914 : (0 : Int) ≤ (I_3907 o 4).toInt ∧ (I_3907 o 4).toInt ≤ 5 := hR_3909.at0 ra 4 (by decide)
                have t_3915 : (I_3907 o 6).toInt = (I_2719 o 6).toInt := by rw [kp_3911 6 rfl]
                have t_3916 : (I_3907 o 7).toInt = (I_2719 o 7).toInt := by rw [kp_3911 7 rfl]
                have t_3917 : (I_3907 o 8).toInt = (I_2719 o 8).toInt := by rw [kp_3911 8 rfl]
                have t_3918 : (I_3907 o 9).toInt = (I_2719 o 9).toInt := by rw [kp_3911 9 rfl]
                have t_3919 : (I_3907 o 44).toInt = (I_2719 o 44).toInt := by rw [kp_3911 44 rfl]
                have t_3920 : (I_3907 o 45).toInt = (I_2719 o 45).toInt := by rw [kp_3911 45 rfl]
                have t_3921 : (I_3907 o 47).toInt = (I_2719 o 47).toInt := by rw [kp_3911 47 rfl]
                have t_3922 : (I_3907 o 48).toInt = (I_2719 o 48).toInt := by rw [kp_3911 48 rfl]
                have t_3923 : (I_3907 o 46).toInt = (I_2719 o 46).toInt := by rw [kp_3911 46 rfl]
                have k_3924 : EX 0 0 0 f0 1 I_3907 o := k_2735.fr (fr_3910 _ (by first | omega | (dsimp only; omega))) (fr_3910 _ (by first | omega | (dsimp only; omega))) (fr_3910 _ (by first | omega | (dsimp only; omega))) (fr_3910 _ (by first | omega | (dsimp only; omega))) (fr_3910 _ (by first | omega | (dsimp only; omega))) (kp_3911 3 rfl) (kp_3911 6 rfl) (kp_3911 44 rfl) (kp_3911 45 rfl) (kp_3911 47 rfl) (kp_3911 48 rfl)
                have k_3925 : MTd I_3907 o := k_2736.fr (fr_3910 _ (by first | omega | (dsimp only; omega))) (fr_3910 _ (by first | omega | (dsimp only; omega))) (fr_3910 _ (by first | omega | (dsimp only; omega)))
                have k_3926 : MPo I_3907 o := k_2737.fr (kp_3911 8 rfl) (kp_3911 9 rfl)
                have k_3927 : MTk I_3907 o := k_2738.fr (kp_3911 6 rfl) (kp_3911 7 rfl) (kp_3911 8 rfl)
                refine y_Model_isGood hok hw ra hR_3909 (fun r_3928 u_3929 u_3930 u_3931 => ⟨r_3928, I_3907, L_3908, rfl, rfl, ?_⟩)
                have b_3932 : 0 ≤ r_3928.toInt ∧ r_3928.toInt ≤ 1 := u_3929.rg
                refine ⟨fun c_3933 => ?_, fun c_3933 => ?_⟩
                · have d_3934 := iNe c_3933
                  have i_3935 := u_3930 (by omega)
                  have g_3936 : (0 : Int) ≤ (I_3907 o 46).toInt ∧ (I_3907 o 46).toInt ≤ 100 := hR_3909.at0 ra 46 (by decide)
                  have a_3937 : ((I_3907 o 46) + 1).toInt = (I_3907 o 46).toInt + (1 : Int32).toInt := tAdd (by omega) (by omega)
                  refine fun I_3938 e_3939 => ?_
                  have hR_3940 : RI R I_3938 := hR_3909.up0 (k := 46) ra (by decide) (Or.inr hz56) e_3939 (show (0 : Int) ≤ ((I_3907 o 46) + 1).toInt by omega) (show ((I_3907 o 46) + 1).toInt ≤ (100 : Int) by omega)
                  have hf_3941 : Fm (fun c => c = o ∨ (o + 30 ≤ c ∧ c < o + 34)) I0 I_3938 := hf_3912.set (by first | rfl | omega | (dsimp only; omega)) e_3939
                  have t_3942 : (I_3938 o 3).toInt = (I_3907 o 3).toInt := by rw [← e_3939, q_u_k (by decide)]
                  have t_3943 : (I_3938 o 4).toInt = (I_3907 o 4).toInt := by rw [← e_3939, q_u_k (by decide)]
                  have t_3944 : (I_3938 o 6).toInt = (I_3907 o 6).toInt := by rw [← e_3939, q_u_k (by decide)]
                  have t_3945 : (I_3938 o 7).toInt = (I_3907 o 7).toInt := by rw [← e_3939, q_u_k (by decide)]
                  have t_3946 : (I_3938 o 8).toInt = (I_3907 o 8).toInt := by rw [← e_3939, q_u_k (by decide)]
                  have t_3947 : (I_3938 o 9).toInt = (I_3907 o 9).toInt := by rw [← e_3939, q_u_k (by decide)]
                  have t_3948 : (I_3938 o 44).toInt = (I_3907 o 44).toInt := by rw [← e_3939, q_u_k (by decide)]
                  have t_3949 : (I_3938 o 45).toInt = (I_3907 o 45).toInt := by rw [← e_3939, q_u_k (by decide)]
                  have t_3950 : (I_3938 o 47).toInt = (I_3907 o 47).toInt := by rw [← e_3939, q_u_k (by decide)]
                  have t_3951 : (I_3938 o 48).toInt = (I_3907 o 48).toInt := by rw [← e_3939, q_u_k (by decide)]
                  have t_3952 : (I_3938 o 46).toInt = ((I_3907 o 46) + 1).toInt := by rw [← e_3939, q_u_at]
                  have k_3953 : EX 0 0 0 f0 1 I_3938 o := k_3924.fr (by rw [← e_3939]; exact q_u_ne (by omega)) (by rw [← e_3939]; exact q_u_ne (by omega)) (by rw [← e_3939]; exact q_u_ne (by omega)) (by rw [← e_3939]; exact q_u_ne (by omega)) (by rw [← e_3939]; exact q_u_ne (by omega)) (by rw [← e_3939, q_u_k (by decide)]) (by rw [← e_3939, q_u_k (by decide)]) (by rw [← e_3939, q_u_k (by decide)]) (by rw [← e_3939, q_u_k (by decide)]) (by rw [← e_3939, q_u_k (by decide)]) (by rw [← e_3939, q_u_k (by decide)])
                  have k_3954 : MTd I_3938 o := k_3925.fr (by rw [← e_3939]; exact q_u_ne (by omega)) (by rw [← e_3939]; exact q_u_ne (by omega)) (by rw [← e_3939]; exact q_u_ne (by omega))
                  have k_3955 : MPo I_3938 o := k_3926.fr (by rw [← e_3939, q_u_k (by decide)]) (by rw [← e_3939, q_u_k (by decide)])
                  have k_3956 : MTk I_3938 o := k_3927.fr (by rw [← e_3939, q_u_k (by decide)]) (by rw [← e_3939, q_u_k (by decide)]) (by rw [← e_3939, q_u_k (by decide)])
                  have l_3957 : (40 : Int32).toInt = 40 := rfl
                  refine y_Model_is hok hw ra hR_3940 (fun r_3958 u_3959 u_3960 u_3961 => ⟨r_3958, I_3938, L_3908, rfl, rfl, ?_⟩)
                  have b_3962 : 0 ≤ r_3958.toInt ∧ r_3958.toInt ≤ 1 := u_3959.rg
                  refine ⟨fun c_3963 => ?_, fun c_3963 => ?_⟩
                  · have d_3964 := iEq c_3963
                    have cd := k_3953.cod
                    have tk := k_3956.2 (by omega)
                    refine ⟨fun c_3965 => ?_, fun c_3965 => ?_⟩
                    · have d_3966 := iNe c_3965
                      have i_3967 := u_2716 (by omega)
                      have i_3968 := u_2717 (by omega)
                      exfalso; omega
                    · have d_3969 := iEq c_3965
                      unfold fModel_unit_228
                      have l_3970 : (78 : Int32).toInt = 78 := rfl
                      refine ⟨fun c_3971 => ?_, fun c_3971 => ?_⟩
                      · have d_3972 := iNe c_3971
                        have i_3973 := u_2716 (by omega)
                        have i_3974 := u_2717 (by omega)
                        exfalso; omega
                      · have d_3975 := iEq c_3971
                        refine y_Model_step hok hw ra hz55 (by first | omega | (intro h; omega) | exact Or.inl rfl | exact Or.inr rfl) (by first | omega | (intro h; omega) | exact Or.inl rfl | exact Or.inr rfl) hR_3940 (fun I_3979 L_3980 hR_3981 fr_3982 kp_3983 u_3977 u_3978 => ⟨I_3979, L_3980, rfl, rfl, ?_⟩)
                        have hf_3984 : Fm (fun c => c = o ∨ (o + 30 ≤ c ∧ c < o + 34)) I0 I_3979 := hf_3941.call fr_3982 (fun c hc => by first | exact hc | (dsimp only at hc ⊢; omega) | omega)
                        have t_3985 : (I_3979 o 3).toInt = (I_3938 o 3).toInt := by rw [kp_3983 3 rfl]
                        have t_3986 : (I_3979 o 4).toInt = (I_3938 o 4).toInt := by rw [kp_3983 4 rfl]
                        have t_3987 : (I_3979 o 6).toInt = (I_3938 o 6).toInt := by rw [kp_3983 6 rfl]
                        have t_3988 : (I_3979 o 7).toInt = (I_3938 o 7).toInt := by rw [kp_3983 7 rfl]
                        have t_3989 : (I_3979 o 8).toInt = (I_3938 o 8).toInt := by rw [kp_3983 8 rfl]
                        have t_3990 : (I_3979 o 9).toInt = (I_3938 o 9).toInt := by rw [kp_3983 9 rfl]
                        have t_3991 : (I_3979 o 44).toInt = (I_3938 o 44).toInt := by rw [kp_3983 44 rfl]
                        have g_3992 : (0 : Int) ≤ (I_3979 o 45).toInt ∧ (I_3979 o 45).toInt ≤ 700 := hR_3981.at0 ra 45 (by decide)
                        have t_3993 : (I_3979 o 47).toInt = (I_3938 o 47).toInt := by rw [kp_3983 47 rfl]
                        have t_3994 : (I_3979 o 48).toInt = (I_3938 o 48).toInt := by rw [kp_3983 48 rfl]
                        have t_3995 : (I_3979 o 46).toInt = (I_3938 o 46).toInt := by rw [kp_3983 46 rfl]
                        have k_3996 : MPo I_3979 o := k_3955.fr (kp_3983 8 rfl) (kp_3983 9 rfl)
                        have k_3997 : MTk I_3979 o := k_3956.fr (kp_3983 6 rfl) (kp_3983 7 rfl) (kp_3983 8 rfl)
                        have tk := k_3997.2 (by omega)
                        have k_3998 : EX 0 0 1 f0 0 I_3979 o := by exact EX.step1 k_3953 (by first | exact u_2716 (by omega) | (unfold isT; decide)) (by omega) (fr_3982 _ (by first | omega | (dsimp only; omega))) (fr_3982 _ (by first | omega | (dsimp only; omega))) u_3977 (fr_3982 _ (by first | omega | (dsimp only; omega))) (fr_3982 _ (by first | omega | (dsimp only; omega))) (kp_3983 3 rfl) (kp_3983 6 rfl) (kp_3983 44 rfl) u_3978 (kp_3983 47 rfl) (kp_3983 48 rfl)
                        have k_3999 : MTd I_3979 o := by exact MTd.step k_3954 (fr_3982 _ (by first | omega | (dsimp only; omega))) (fr_3982 _ (by first | omega | (dsimp only; omega))) u_3977 (by omega)
                        refine y_Model_next hok hw ra hz16 hz17 hz18 hz19 (by first | omega | (intro h; omega) | exact Or.inl rfl | exact Or.inr rfl) hR_3981 (fun I_4009 L_4010 hR_4011 fr_4012 kp_4013 u_4001 u_4002 u_4003 u_4004 u_4005 u_4006 u_4007 u_4008 => ⟨I_4009, L_4010, rfl, rfl, ?_⟩)
                        have hf_4014 : Fm (fun c => c = o ∨ (o + 30 ≤ c ∧ c < o + 34)) I0 I_4009 := hf_3984.call fr_4012 (fun c hc => by first | exact hc | (dsimp only at hc ⊢; omega) | omega)
                        have t_4015 : (I_4009 o 3).toInt = (I_3979 o 3).toInt := by rw [kp_4013 3 rfl]
                        have t_4016 : (I_4009 o 4).toInt = (I_3979 o 4).toInt := by rw [kp_4013 4 rfl]
                        have g_4017 : (0 : Int) ≤ (I_4009 o 6).toInt ∧ (I_4009 o 6).toInt ≤ 1600 := hR_4011.at0 ra 6 (by decide)
                        have g_4018 : (0 : Int) ≤ (I_4009 o 7).toInt ∧ (I_4009 o 7).toInt ≤ 1601 := hR_4011.at0 ra 7 (by decide)
                        have g_4019 : (0 : Int) ≤ (I_4009 o 8).toInt ∧ (I_4009 o 8).toInt ≤ 6 := hR_4011.at0 ra 8 (by decide)
                        have t_4020 : (I_4009 o 44).toInt = (I_3979 o 44).toInt := by rw [kp_4013 44 rfl]
                        have t_4021 : (I_4009 o 45).toInt = (I_3979 o 45).toInt := by rw [kp_4013 45 rfl]
                        have t_4022 : (I_4009 o 47).toInt = (I_3979 o 47).toInt := by rw [kp_4013 47 rfl]
                        have t_4023 : (I_4009 o 48).toInt = (I_3979 o 48).toInt := by rw [kp_4013 48 rfl]
                        have t_4024 : (I_4009 o 46).toInt = (I_3979 o 46).toInt := by rw [kp_4013 46 rfl]
                        have k_4025 : MTd I_4009 o := k_3999.fr (fr_4012 _ (by first | omega | (dsimp only; omega))) (fr_4012 _ (by first | omega | (dsimp only; omega))) (fr_4012 _ (by first | omega | (dsimp only; omega)))
                        have ms := u_4004 (by omega)
                        have k_4026 : EX 0 0 0 f0 0 I_4009 o := by exact EX.nx k_3998 (fr_4012 _ (by first | omega | (dsimp only; omega))) (fr_4012 _ (by first | omega | (dsimp only; omega))) (fr_4012 _ (by first | omega | (dsimp only; omega))) (fr_4012 _ (by first | omega | (dsimp only; omega))) (fr_4012 _ (by first | omega | (dsimp only; omega))) (kp_4013 3 rfl) (kp_4013 44 rfl) (kp_4013 45 rfl) (kp_4013 47 rfl) (kp_4013 48 rfl) (by omega) (by omega)
                        exact (hp _ _ _ hR_4011 hf_4014 (Or.inl rfl) (by first | omega | (intro h; omega) | exact Or.inl rfl | exact Or.inr rfl) (by first | omega | (intro h; omega) | exact Or.inl rfl | exact Or.inr rfl) (by first | omega | (intro h; omega) | exact Or.inl rfl | exact Or.inr rfl) (by first | omega | (intro h; omega) | exact Or.inl rfl | exact Or.inr rfl) (by first | omega | (intro h; omega) | exact Or.inl rfl | exact Or.inr rfl) (by first | (intro h; exfalso; omega) | exact fun _ => (False.elim (by omega)) | exact fun _ => k_4026) k_4025 u_4007 u_4008)
                  · have d_4027 := iNe c_3963
                    have i_4028 := u_3960 (by omega)
                    have i_4029 := u_3961 (by omega)
                    have g_4030 : (0 : Int) ≤ (I_3938 o 47).toInt ∧ (I_3938 o 47).toInt ≤ 7 := hR_3940.at0 ra 47 (by decide)
                    refine ⟨fun c_4031 => ?_, fun c_4031 => ?_⟩
                    · have d_4032 := iNe c_4031
                      refine y_Model_isGood hok hw ra hR_3940 (fun r_4033 u_4034 u_4035 u_4036 => ⟨r_4033, I_3938, L_3908, rfl, rfl, ?_⟩)
                      have b_4037 : 0 ≤ r_4033.toInt ∧ r_4033.toInt ≤ 1 := u_4034.rg
                      refine ⟨fun c_4038 => ?_, fun c_4038 => ?_⟩
                      · have d_4039 := iNe c_4038
                        have i_4040 := u_4035 (by omega)
                        refine y_Model_pile hok hw ra hz58 (by first | omega | (intro h; omega) | exact Or.inl rfl | exact Or.inr rfl) (by first | omega | (intro h; omega) | exact Or.inl rfl | exact Or.inr rfl) hR_3940 (fun I_4045 L_4046 hR_4047 fr_4048 kp_4049 u_4042 u_4043 u_4044 => ⟨I_4045, L_4046, rfl, rfl, ?_⟩)
                        have hf_4050 : Fm (fun c => c = o ∨ (o + 30 ≤ c ∧ c < o + 34)) I0 I_4045 := hf_3941.call fr_4048 (fun c hc => by first | exact hc | (dsimp only at hc ⊢; omega) | omega)
                        have t_4051 : (I_4045 o 3).toInt = (I_3938 o 3).toInt := by rw [kp_4049 3 rfl]
                        have t_4052 : (I_4045 o 4).toInt = (I_3938 o 4).toInt := by rw [kp_4049 4 rfl]
                        have t_4053 : (I_4045 o 6).toInt = (I_3938 o 6).toInt := by rw [kp_4049 6 rfl]
                        have t_4054 : (I_4045 o 7).toInt = (I_3938 o 7).toInt := by rw [kp_4049 7 rfl]
                        have t_4055 : (I_4045 o 8).toInt = (I_3938 o 8).toInt := by rw [kp_4049 8 rfl]
                        have t_4056 : (I_4045 o 9).toInt = (I_3938 o 9).toInt := by rw [kp_4049 9 rfl]
                        have t_4057 : (I_4045 o 44).toInt = (I_3938 o 44).toInt := by rw [kp_4049 44 rfl]
                        have t_4058 : (I_4045 o 45).toInt = (I_3938 o 45).toInt := by rw [kp_4049 45 rfl]
                        have t_4059 : (I_4045 o 47).toInt = (I_3938 o 47).toInt := by rw [kp_4049 47 rfl]
                        have g_4060 : (0 : Int) ≤ (I_4045 o 48).toInt ∧ (I_4045 o 48).toInt ≤ 80 := hR_4047.at0 ra 48 (by decide)
                        have t_4061 : (I_4045 o 46).toInt = (I_3938 o 46).toInt := by rw [kp_4049 46 rfl]
                        have k_4062 : MTd I_4045 o := k_3954.fr (fr_4048 _ (by first | omega | (dsimp only; omega))) (fr_4048 _ (by first | omega | (dsimp only; omega))) (fr_4048 _ (by first | omega | (dsimp only; omega)))
                        have k_4063 : MPo I_4045 o := k_3955.fr (kp_4049 8 rfl) (kp_4049 9 rfl)
                        have k_4064 : MTk I_4045 o := k_3956.fr (kp_4049 6 rfl) (kp_4049 7 rfl) (kp_4049 8 rfl)
                        have k_4065 : EX 0 1 1 f0 1 I_4045 o := by have z := EX.push k_3953 (v := 7) (s := 0) (dB := 1) (dO := 0) (wt' := 1) (by decide) (by decide) (by decide) (by omega) ⟨by decide, by decide⟩ ⟨fun h => absurd h (by decide), fun h => absurd h (by decide)⟩ (Or.inl rfl) (fr_4048 _ (by first | omega | (dsimp only; omega))) (fr_4048 _ (by first | omega | (dsimp only; omega))) (fr_4048 _ (by first | omega | (dsimp only; omega))) u_4042 u_4043 (kp_4049 3 rfl) (kp_4049 6 rfl) (kp_4049 44 rfl) (kp_4049 45 rfl) (kp_4049 47 rfl) u_4044; exact EX.chg (b' := 1) z rfl rfl rfl rfl rfl rfl rfl rfl rfl rfl (by omega) z.pl
                        have g_4066 : (0 : Int) ≤ (I_4045 o 47).toInt ∧ (I_4045 o 47).toInt ≤ 7 := hR_4047.at0 ra 47 (by decide)
                        have a_4067 : ((I_4045 o 47) + 1).toInt = (I_4045 o 47).toInt + (1 : Int32).toInt := tAdd (by omega) (by omega)
                        refine fun I_4068 e_4069 => ?_
                        have hR_4070 : RI R I_4068 := hR_4047.up0 (k := 47) ra (by decide) (Or.inr hz57) e_4069 (show (0 : Int) ≤ ((I_4045 o 47) + 1).toInt by omega) (show ((I_4045 o 47) + 1).toInt ≤ (7 : Int) by omega)
                        have hf_4071 : Fm (fun c => c = o ∨ (o + 30 ≤ c ∧ c < o + 34)) I0 I_4068 := hf_4050.set (by first | rfl | omega | (dsimp only; omega)) e_4069
                        have t_4072 : (I_4068 o 3).toInt = (I_4045 o 3).toInt := by rw [← e_4069, q_u_k (by decide)]
                        have t_4073 : (I_4068 o 4).toInt = (I_4045 o 4).toInt := by rw [← e_4069, q_u_k (by decide)]
                        have t_4074 : (I_4068 o 6).toInt = (I_4045 o 6).toInt := by rw [← e_4069, q_u_k (by decide)]
                        have t_4075 : (I_4068 o 7).toInt = (I_4045 o 7).toInt := by rw [← e_4069, q_u_k (by decide)]
                        have t_4076 : (I_4068 o 8).toInt = (I_4045 o 8).toInt := by rw [← e_4069, q_u_k (by decide)]
                        have t_4077 : (I_4068 o 9).toInt = (I_4045 o 9).toInt := by rw [← e_4069, q_u_k (by decide)]
                        have t_4078 : (I_4068 o 44).toInt = (I_4045 o 44).toInt := by rw [← e_4069, q_u_k (by decide)]
                        have t_4079 : (I_4068 o 45).toInt = (I_4045 o 45).toInt := by rw [← e_4069, q_u_k (by decide)]
                        have t_4080 : (I_4068 o 47).toInt = ((I_4045 o 47) + 1).toInt := by rw [← e_4069, q_u_at]
                        have t_4081 : (I_4068 o 48).toInt = (I_4045 o 48).toInt := by rw [← e_4069, q_u_k (by decide)]
                        have t_4082 : (I_4068 o 46).toInt = (I_4045 o 46).toInt := by rw [← e_4069, q_u_k (by decide)]
                        have k_4083 : MTd I_4068 o := k_4062.fr (by rw [← e_4069]; exact q_u_ne (by omega)) (by rw [← e_4069]; exact q_u_ne (by omega)) (by rw [← e_4069]; exact q_u_ne (by omega))
                        have k_4084 : MPo I_4068 o := k_4063.fr (by rw [← e_4069, q_u_k (by decide)]) (by rw [← e_4069, q_u_k (by decide)])
                        have k_4085 : MTk I_4068 o := k_4064.fr (by rw [← e_4069, q_u_k (by decide)]) (by rw [← e_4069, q_u_k (by decide)]) (by rw [← e_4069, q_u_k (by decide)])
                        have tk := k_4085.2 (by omega)
                        have k_4087 : EX 0 0 1 f0 1 I_4068 o := by exact EX.put47 k_4065 e_4069 (by omega)
                        refine y_Model_next hok hw ra hz16 hz17 hz18 hz19 (by first | omega | (intro h; omega) | exact Or.inl rfl | exact Or.inr rfl) hR_4070 (fun I_4097 L_4098 hR_4099 fr_4100 kp_4101 u_4089 u_4090 u_4091 u_4092 u_4093 u_4094 u_4095 u_4096 => ⟨I_4097, L_4098, rfl, rfl, ?_⟩)
                        have hf_4102 : Fm (fun c => c = o ∨ (o + 30 ≤ c ∧ c < o + 34)) I0 I_4097 := hf_4071.call fr_4100 (fun c hc => by first | exact hc | (dsimp only at hc ⊢; omega) | omega)
                        have t_4103 : (I_4097 o 3).toInt = (I_4068 o 3).toInt := by rw [kp_4101 3 rfl]
                        have t_4104 : (I_4097 o 4).toInt = (I_4068 o 4).toInt := by rw [kp_4101 4 rfl]
                        have g_4105 : (0 : Int) ≤ (I_4097 o 6).toInt ∧ (I_4097 o 6).toInt ≤ 1600 := hR_4099.at0 ra 6 (by decide)
                        have g_4106 : (0 : Int) ≤ (I_4097 o 7).toInt ∧ (I_4097 o 7).toInt ≤ 1601 := hR_4099.at0 ra 7 (by decide)
                        have g_4107 : (0 : Int) ≤ (I_4097 o 8).toInt ∧ (I_4097 o 8).toInt ≤ 6 := hR_4099.at0 ra 8 (by decide)
                        have t_4108 : (I_4097 o 44).toInt = (I_4068 o 44).toInt := by rw [kp_4101 44 rfl]
                        have t_4109 : (I_4097 o 45).toInt = (I_4068 o 45).toInt := by rw [kp_4101 45 rfl]
                        have t_4110 : (I_4097 o 47).toInt = (I_4068 o 47).toInt := by rw [kp_4101 47 rfl]
                        have t_4111 : (I_4097 o 48).toInt = (I_4068 o 48).toInt := by rw [kp_4101 48 rfl]
                        have t_4112 : (I_4097 o 46).toInt = (I_4068 o 46).toInt := by rw [kp_4101 46 rfl]
                        have k_4113 : MTd I_4097 o := k_4083.fr (fr_4100 _ (by first | omega | (dsimp only; omega))) (fr_4100 _ (by first | omega | (dsimp only; omega))) (fr_4100 _ (by first | omega | (dsimp only; omega)))
                        have ms := u_4092 (by omega)
                        have k_4114 : EX 0 0 0 f0 1 I_4097 o := by exact EX.nx k_4087 (fr_4100 _ (by first | omega | (dsimp only; omega))) (fr_4100 _ (by first | omega | (dsimp only; omega))) (fr_4100 _ (by first | omega | (dsimp only; omega))) (fr_4100 _ (by first | omega | (dsimp only; omega))) (fr_4100 _ (by first | omega | (dsimp only; omega))) (kp_4101 3 rfl) (kp_4101 44 rfl) (kp_4101 45 rfl) (kp_4101 47 rfl) (kp_4101 48 rfl) (by omega) (by omega)
                        exact (hp _ _ _ hR_4099 hf_4102 (Or.inr rfl) (by first | omega | (intro h; omega) | exact Or.inl rfl | exact Or.inr rfl) (by first | omega | (intro h; omega) | exact Or.inl rfl | exact Or.inr rfl) (by first | omega | (intro h; omega) | exact Or.inl rfl | exact Or.inr rfl) (by first | omega | (intro h; omega) | exact Or.inl rfl | exact Or.inr rfl) (by first | omega | (intro h; omega) | exact Or.inl rfl | exact Or.inr rfl) (by first | (intro h; exfalso; omega) | exact fun _ => k_4114 | exact fun _ => (False.elim (by omega))) k_4113 u_4095 u_4096)
                      · have d_4115 := iEq c_4038
                        have i_4116 := u_4036 (by omega)
                        exact (hp _ _ _ hR_3940 hf_3941 (Or.inr rfl) (by first | omega | (intro h; omega) | exact Or.inl rfl | exact Or.inr rfl) (by first | omega | (intro h; omega) | exact Or.inl rfl | exact Or.inr rfl) (by first | omega | (intro h; omega) | exact Or.inl rfl | exact Or.inr rfl) (by first | omega | (intro h; omega) | exact Or.inl rfl | exact Or.inr rfl) (by first | omega | (intro h; omega) | exact Or.inl rfl | exact Or.inr rfl) (by first | (intro h; exfalso; omega) | exact fun _ => k_3953 | exact fun _ => (False.elim (by omega))) k_3954 k_3955 k_3956)
                    · have d_4117 := iEq c_4031
                      refine y_Model_wrong hok hw ra hz14 hz15 hR_3940 (fun I_4121 L_4122 hR_4123 fr_4124 kp_4125 u_4119 u_4120 => ⟨I_4121, L_4122, rfl, rfl, ?_⟩)
                      have hf_4126 : Fm (fun c => c = o ∨ (o + 30 ≤ c ∧ c < o + 34)) I0 I_4121 := hf_3941.call fr_4124 (fun c hc => by first | exact hc | (dsimp only at hc ⊢; omega) | omega)
                      have t_4127 : (I_4121 o 3).toInt = (I_3938 o 3).toInt := by rw [kp_4125 3 rfl]
                      have g_4128 : (0 : Int) ≤ (I_4121 o 4).toInt ∧ (I_4121 o 4).toInt ≤ 5 := hR_4123.at0 ra 4 (by decide)
                      have t_4129 : (I_4121 o 6).toInt = (I_3938 o 6).toInt := by rw [kp_4125 6 rfl]
                      have t_4130 : (I_4121 o 7).toInt = (I_3938 o 7).toInt := by rw [kp_4125 7 rfl]
                      have t_4131 : (I_4121 o 8).toInt = (I_3938 o 8).toInt := by rw [kp_4125 8 rfl]
                      have t_4132 : (I_4121 o 9).toInt = (I_3938 o 9).toInt := by rw [kp_4125 9 rfl]
                      have t_4133 : (I_4121 o 44).toInt = (I_3938 o 44).toInt := by rw [kp_4125 44 rfl]
                      have t_4134 : (I_4121 o 45).toInt = (I_3938 o 45).toInt := by rw [kp_4125 45 rfl]
                      have t_4135 : (I_4121 o 47).toInt = (I_3938 o 47).toInt := by rw [kp_4125 47 rfl]
                      have t_4136 : (I_4121 o 48).toInt = (I_3938 o 48).toInt := by rw [kp_4125 48 rfl]
                      have t_4137 : (I_4121 o 46).toInt = (I_3938 o 46).toInt := by rw [kp_4125 46 rfl]
                      have k_4138 : EX 0 0 0 f0 1 I_4121 o := k_3953.fr (fr_4124 _ (by first | omega | (dsimp only; omega))) (fr_4124 _ (by first | omega | (dsimp only; omega))) (fr_4124 _ (by first | omega | (dsimp only; omega))) (fr_4124 _ (by first | omega | (dsimp only; omega))) (fr_4124 _ (by first | omega | (dsimp only; omega))) (kp_4125 3 rfl) (kp_4125 6 rfl) (kp_4125 44 rfl) (kp_4125 45 rfl) (kp_4125 47 rfl) (kp_4125 48 rfl)
                      have k_4139 : MTd I_4121 o := k_3954.fr (fr_4124 _ (by first | omega | (dsimp only; omega))) (fr_4124 _ (by first | omega | (dsimp only; omega))) (fr_4124 _ (by first | omega | (dsimp only; omega)))
                      have k_4140 : MPo I_4121 o := k_3955.fr (kp_4125 8 rfl) (kp_4125 9 rfl)
                      have k_4141 : MTk I_4121 o := k_3956.fr (kp_4125 6 rfl) (kp_4125 7 rfl) (kp_4125 8 rfl)
                      refine y_Model_isGood hok hw ra hR_4123 (fun r_4142 u_4143 u_4144 u_4145 => ⟨r_4142, I_4121, L_4122, rfl, rfl, ?_⟩)
                      have b_4146 : 0 ≤ r_4142.toInt ∧ r_4142.toInt ≤ 1 := u_4143.rg
                      refine ⟨fun c_4147 => ?_, fun c_4147 => ?_⟩
                      · have d_4148 := iNe c_4147
                        have i_4149 := u_4144 (by omega)
                        refine y_Model_pile hok hw ra hz58 (by first | omega | (intro h; omega) | exact Or.inl rfl | exact Or.inr rfl) (by first | omega | (intro h; omega) | exact Or.inl rfl | exact Or.inr rfl) hR_4123 (fun I_4154 L_4155 hR_4156 fr_4157 kp_4158 u_4151 u_4152 u_4153 => ⟨I_4154, L_4155, rfl, rfl, ?_⟩)
                        have hf_4159 : Fm (fun c => c = o ∨ (o + 30 ≤ c ∧ c < o + 34)) I0 I_4154 := hf_4126.call fr_4157 (fun c hc => by first | exact hc | (dsimp only at hc ⊢; omega) | omega)
                        have t_4160 : (I_4154 o 3).toInt = (I_4121 o 3).toInt := by rw [kp_4158 3 rfl]
                        have t_4161 : (I_4154 o 4).toInt = (I_4121 o 4).toInt := by rw [kp_4158 4 rfl]
                        have t_4162 : (I_4154 o 6).toInt = (I_4121 o 6).toInt := by rw [kp_4158 6 rfl]
                        have t_4163 : (I_4154 o 7).toInt = (I_4121 o 7).toInt := by rw [kp_4158 7 rfl]
                        have t_4164 : (I_4154 o 8).toInt = (I_4121 o 8).toInt := by rw [kp_4158 8 rfl]
                        have t_4165 : (I_4154 o 9).toInt = (I_4121 o 9).toInt := by rw [kp_4158 9 rfl]
                        have t_4166 : (I_4154 o 44).toInt = (I_4121 o 44).toInt := by rw [kp_4158 44 rfl]
                        have t_4167 : (I_4154 o 45).toInt = (I_4121 o 45).toInt := by rw [kp_4158 45 rfl]
                        have t_4168 : (I_4154 o 47).toInt = (I_4121 o 47).toInt := by rw [kp_4158 47 rfl]
                        have g_4169 : (0 : Int) ≤ (I_4154 o 48).toInt ∧ (I_4154 o 48).toInt ≤ 80 := hR_4156.at0 ra 48 (by decide)
                        have t_4170 : (I_4154 o 46).toInt = (I_4121 o 46).toInt := by rw [kp_4158 46 rfl]
                        have k_4171 : MTd I_4154 o := k_4139.fr (fr_4157 _ (by first | omega | (dsimp only; omega))) (fr_4157 _ (by first | omega | (dsimp only; omega))) (fr_4157 _ (by first | omega | (dsimp only; omega)))
                        have k_4172 : MPo I_4154 o := k_4140.fr (kp_4158 8 rfl) (kp_4158 9 rfl)
                        have k_4173 : MTk I_4154 o := k_4141.fr (kp_4158 6 rfl) (kp_4158 7 rfl) (kp_4158 8 rfl)
                        have k_4174 : EX 0 1 1 f0 1 I_4154 o := by have z := EX.push k_4138 (v := 7) (s := 0) (dB := 1) (dO := 0) (wt' := 1) (by decide) (by decide) (by decide) (by omega) ⟨by decide, by decide⟩ ⟨fun h => absurd h (by decide), fun h => absurd h (by decide)⟩ (Or.inl rfl) (fr_4157 _ (by first | omega | (dsimp only; omega))) (fr_4157 _ (by first | omega | (dsimp only; omega))) (fr_4157 _ (by first | omega | (dsimp only; omega))) u_4151 u_4152 (kp_4158 3 rfl) (kp_4158 6 rfl) (kp_4158 44 rfl) (kp_4158 45 rfl) (kp_4158 47 rfl) u_4153; exact EX.chg (b' := 1) z rfl rfl rfl rfl rfl rfl rfl rfl rfl rfl (by omega) z.pl
                        have g_4175 : (0 : Int) ≤ (I_4154 o 47).toInt ∧ (I_4154 o 47).toInt ≤ 7 := hR_4156.at0 ra 47 (by decide)
                        have a_4176 : ((I_4154 o 47) + 1).toInt = (I_4154 o 47).toInt + (1 : Int32).toInt := tAdd (by omega) (by omega)
                        refine fun I_4177 e_4178 => ?_
                        have hR_4179 : RI R I_4177 := hR_4156.up0 (k := 47) ra (by decide) (Or.inr hz57) e_4178 (show (0 : Int) ≤ ((I_4154 o 47) + 1).toInt by omega) (show ((I_4154 o 47) + 1).toInt ≤ (7 : Int) by omega)
                        have hf_4180 : Fm (fun c => c = o ∨ (o + 30 ≤ c ∧ c < o + 34)) I0 I_4177 := hf_4159.set (by first | rfl | omega | (dsimp only; omega)) e_4178
                        have t_4181 : (I_4177 o 3).toInt = (I_4154 o 3).toInt := by rw [← e_4178, q_u_k (by decide)]
                        have t_4182 : (I_4177 o 4).toInt = (I_4154 o 4).toInt := by rw [← e_4178, q_u_k (by decide)]
                        have t_4183 : (I_4177 o 6).toInt = (I_4154 o 6).toInt := by rw [← e_4178, q_u_k (by decide)]
                        have t_4184 : (I_4177 o 7).toInt = (I_4154 o 7).toInt := by rw [← e_4178, q_u_k (by decide)]
                        have t_4185 : (I_4177 o 8).toInt = (I_4154 o 8).toInt := by rw [← e_4178, q_u_k (by decide)]
                        have t_4186 : (I_4177 o 9).toInt = (I_4154 o 9).toInt := by rw [← e_4178, q_u_k (by decide)]
                        have t_4187 : (I_4177 o 44).toInt = (I_4154 o 44).toInt := by rw [← e_4178, q_u_k (by decide)]
                        have t_4188 : (I_4177 o 45).toInt = (I_4154 o 45).toInt := by rw [← e_4178, q_u_k (by decide)]
                        have t_4189 : (I_4177 o 47).toInt = ((I_4154 o 47) + 1).toInt := by rw [← e_4178, q_u_at]
                        have t_4190 : (I_4177 o 48).toInt = (I_4154 o 48).toInt := by rw [← e_4178, q_u_k (by decide)]
                        have t_4191 : (I_4177 o 46).toInt = (I_4154 o 46).toInt := by rw [← e_4178, q_u_k (by decide)]
                        have k_4192 : MTd I_4177 o := k_4171.fr (by rw [← e_4178]; exact q_u_ne (by omega)) (by rw [← e_4178]; exact q_u_ne (by omega)) (by rw [← e_4178]; exact q_u_ne (by omega))
                        have k_4193 : MPo I_4177 o := k_4172.fr (by rw [← e_4178, q_u_k (by decide)]) (by rw [← e_4178, q_u_k (by decide)])
                        have k_4194 : MTk I_4177 o := k_4173.fr (by rw [← e_4178, q_u_k (by decide)]) (by rw [← e_4178, q_u_k (by decide)]) (by rw [← e_4178, q_u_k (by decide)])
                        have tk := k_4194.2 (by omega)
                        have k_4196 : EX 0 0 1 f0 1 I_4177 o := by exact EX.put47 k_4174 e_4178 (by omega)
                        refine y_Model_next hok hw ra hz16 hz17 hz18 hz19 (by first | omega | (intro h; omega) | exact Or.inl rfl | exact Or.inr rfl) hR_4179 (fun I_4206 L_4207 hR_4208 fr_4209 kp_4210 u_4198 u_4199 u_4200 u_4201 u_4202 u_4203 u_4204 u_4205 => ⟨I_4206, L_4207, rfl, rfl, ?_⟩)
                        have hf_4211 : Fm (fun c => c = o ∨ (o + 30 ≤ c ∧ c < o + 34)) I0 I_4206 := hf_4180.call fr_4209 (fun c hc => by first | exact hc | (dsimp only at hc ⊢; omega) | omega)
                        have t_4212 : (I_4206 o 3).toInt = (I_4177 o 3).toInt := by rw [kp_4210 3 rfl]
                        have t_4213 : (I_4206 o 4).toInt = (I_4177 o 4).toInt := by rw [kp_4210 4 rfl]
                        have g_4214 : (0 : Int) ≤ (I_4206 o 6).toInt ∧ (I_4206 o 6).toInt ≤ 1600 := hR_4208.at0 ra 6 (by decide)
                        have g_4215 : (0 : Int) ≤ (I_4206 o 7).toInt ∧ (I_4206 o 7).toInt ≤ 1601 := hR_4208.at0 ra 7 (by decide)
                        have g_4216 : (0 : Int) ≤ (I_4206 o 8).toInt ∧ (I_4206 o 8).toInt ≤ 6 := hR_4208.at0 ra 8 (by decide)
                        have t_4217 : (I_4206 o 44).toInt = (I_4177 o 44).toInt := by rw [kp_4210 44 rfl]
                        have t_4218 : (I_4206 o 45).toInt = (I_4177 o 45).toInt := by rw [kp_4210 45 rfl]
                        have t_4219 : (I_4206 o 47).toInt = (I_4177 o 47).toInt := by rw [kp_4210 47 rfl]
                        have t_4220 : (I_4206 o 48).toInt = (I_4177 o 48).toInt := by rw [kp_4210 48 rfl]
                        have t_4221 : (I_4206 o 46).toInt = (I_4177 o 46).toInt := by rw [kp_4210 46 rfl]
                        have k_4222 : MTd I_4206 o := k_4192.fr (fr_4209 _ (by first | omega | (dsimp only; omega))) (fr_4209 _ (by first | omega | (dsimp only; omega))) (fr_4209 _ (by first | omega | (dsimp only; omega)))
                        have ms := u_4201 (by omega)
                        have k_4223 : EX 0 0 0 f0 1 I_4206 o := by exact EX.nx k_4196 (fr_4209 _ (by first | omega | (dsimp only; omega))) (fr_4209 _ (by first | omega | (dsimp only; omega))) (fr_4209 _ (by first | omega | (dsimp only; omega))) (fr_4209 _ (by first | omega | (dsimp only; omega))) (fr_4209 _ (by first | omega | (dsimp only; omega))) (kp_4210 3 rfl) (kp_4210 44 rfl) (kp_4210 45 rfl) (kp_4210 47 rfl) (kp_4210 48 rfl) (by omega) (by omega)
                        exact (hp _ _ _ hR_4208 hf_4211 (Or.inr rfl) (by first | omega | (intro h; omega) | exact Or.inl rfl | exact Or.inr rfl) (by first | omega | (intro h; omega) | exact Or.inl rfl | exact Or.inr rfl) (by first | omega | (intro h; omega) | exact Or.inl rfl | exact Or.inr rfl) (by first | omega | (intro h; omega) | exact Or.inl rfl | exact Or.inr rfl) (by first | omega | (intro h; omega) | exact Or.inl rfl | exact Or.inr rfl) (by first | (intro h; exfalso; omega) | exact fun _ => k_4223 | exact fun _ => (False.elim (by omega))) k_4222 u_4204 u_4205)
                      · have d_4224 := iEq c_4147
                        have i_4225 := u_4145 (by omega)
                        exact (hp _ _ _ hR_4123 hf_4126 (Or.inr rfl) (by first | omega | (intro h; omega) | exact Or.inl rfl | exact Or.inr rfl) (by first | omega | (intro h; omega) | exact Or.inl rfl | exact Or.inr rfl) (by first | omega | (intro h; omega) | exact Or.inl rfl | exact Or.inr rfl) (by first | omega | (intro h; omega) | exact Or.inl rfl | exact Or.inr rfl) (by first | omega | (intro h; omega) | exact Or.inl rfl | exact Or.inr rfl) (by first | (intro h; exfalso; omega) | exact fun _ => k_4138 | exact fun _ => (False.elim (by omega))) k_4139 k_4140 k_4141)
                · have d_4226 := iEq c_3933
                  have i_4227 := u_3931 (by omega)
                  exact (hp _ _ _ hR_3909 hf_3912 (Or.inr rfl) (by first | omega | (intro h; omega) | exact Or.inl rfl | exact Or.inr rfl) (by first | omega | (intro h; omega) | exact Or.inl rfl | exact Or.inr rfl) (by first | omega | (intro h; omega) | exact Or.inl rfl | exact Or.inr rfl) (by first | omega | (intro h; omega) | exact Or.inl rfl | exact Or.inr rfl) (by first | omega | (intro h; omega) | exact Or.inl rfl | exact Or.inr rfl) (by first | (intro h; exfalso; omega) | exact fun _ => k_3924 | exact fun _ => (False.elim (by omega))) k_3925 k_3926 k_3927)
            · have d_4228 := iNe c_3597
              have l_4229 : (40 : Int32).toInt = 40 := rfl
              refine y_Model_is hok hw ra hR_2721 (fun r_4230 u_4231 u_4232 u_4233 => ⟨r_4230, I_2719, L_2720, rfl, rfl, ?_⟩)
              have b_4234 : 0 ≤ r_4230.toInt ∧ r_4230.toInt ≤ 1 := u_4231.rg
              refine ⟨fun c_4235 => ?_, fun c_4235 => ?_⟩
              · have d_4236 := iEq c_4235
                unfold fModel_unit_140
                refine y_Model_wrong hok hw ra hz14 hz15 hR_2721 (fun I_4240 L_4241 hR_4242 fr_4243 kp_4244 u_4238 u_4239 => ⟨I_4240, L_4241, rfl, rfl, ?_⟩)
                have hf_4245 : Fm (fun c => c = o ∨ (o + 30 ≤ c ∧ c < o + 34)) I0 I_4240 := hf_2724.call fr_4243 (fun c hc => by first | exact hc | (dsimp only at hc ⊢; omega) | omega)
                have t_4246 : (I_4240 o 3).toInt = (I_2719 o 3).toInt := by rw [kp_4244 3 rfl]
                have g_4247 : (0 : Int) ≤ (I_4240 o 4).toInt ∧ (I_4240 o 4).toInt ≤ 5 := hR_4242.at0 ra 4 (by decide)
                have t_4248 : (I_4240 o 6).toInt = (I_2719 o 6).toInt := by rw [kp_4244 6 rfl]
                have t_4249 : (I_4240 o 7).toInt = (I_2719 o 7).toInt := by rw [kp_4244 7 rfl]
                have t_4250 : (I_4240 o 8).toInt = (I_2719 o 8).toInt := by rw [kp_4244 8 rfl]
                have t_4251 : (I_4240 o 9).toInt = (I_2719 o 9).toInt := by rw [kp_4244 9 rfl]
                have t_4252 : (I_4240 o 44).toInt = (I_2719 o 44).toInt := by rw [kp_4244 44 rfl]
                have t_4253 : (I_4240 o 45).toInt = (I_2719 o 45).toInt := by rw [kp_4244 45 rfl]
                have t_4254 : (I_4240 o 47).toInt = (I_2719 o 47).toInt := by rw [kp_4244 47 rfl]
                have t_4255 : (I_4240 o 48).toInt = (I_2719 o 48).toInt := by rw [kp_4244 48 rfl]
                have k_4256 : EX 0 0 0 f0 1 I_4240 o := k_2735.fr (fr_4243 _ (by first | omega | (dsimp only; omega))) (fr_4243 _ (by first | omega | (dsimp only; omega))) (fr_4243 _ (by first | omega | (dsimp only; omega))) (fr_4243 _ (by first | omega | (dsimp only; omega))) (fr_4243 _ (by first | omega | (dsimp only; omega))) (kp_4244 3 rfl) (kp_4244 6 rfl) (kp_4244 44 rfl) (kp_4244 45 rfl) (kp_4244 47 rfl) (kp_4244 48 rfl)
                have k_4257 : MTd I_4240 o := k_2736.fr (fr_4243 _ (by first | omega | (dsimp only; omega))) (fr_4243 _ (by first | omega | (dsimp only; omega))) (fr_4243 _ (by first | omega | (dsimp only; omega)))
                have k_4258 : MPo I_4240 o := k_2737.fr (kp_4244 8 rfl) (kp_4244 9 rfl)
                have k_4259 : MTk I_4240 o := k_2738.fr (kp_4244 6 rfl) (kp_4244 7 rfl) (kp_4244 8 rfl)
                refine y_Model_isGood hok hw ra hR_4242 (fun r_4260 u_4261 u_4262 u_4263 => ⟨r_4260, I_4240, L_4241, rfl, rfl, ?_⟩)
                have b_4264 : 0 ≤ r_4260.toInt ∧ r_4260.toInt ≤ 1 := u_4261.rg
                refine ⟨fun c_4265 => ?_, fun c_4265 => ?_⟩
                · have d_4266 := iNe c_4265
                  have i_4267 := u_4262 (by omega)
                  have g_4268 : (0 : Int) ≤ (I_4240 o 46).toInt ∧ (I_4240 o 46).toInt ≤ 100 := hR_4242.at0 ra 46 (by decide)
                  have a_4269 : ((I_4240 o 46) + 1).toInt = (I_4240 o 46).toInt + (1 : Int32).toInt := tAdd (by omega) (by omega)
                  refine fun I_4270 e_4271 => ?_
                  have hR_4272 : RI R I_4270 := hR_4242.up0 (k := 46) ra (by decide) (Or.inr hz56) e_4271 (show (0 : Int) ≤ ((I_4240 o 46) + 1).toInt by omega) (show ((I_4240 o 46) + 1).toInt ≤ (100 : Int) by omega)
                  have hf_4273 : Fm (fun c => c = o ∨ (o + 30 ≤ c ∧ c < o + 34)) I0 I_4270 := hf_4245.set (by first | rfl | omega | (dsimp only; omega)) e_4271
                  have t_4274 : (I_4270 o 3).toInt = (I_4240 o 3).toInt := by rw [← e_4271, q_u_k (by decide)]
                  have t_4275 : (I_4270 o 4).toInt = (I_4240 o 4).toInt := by rw [← e_4271, q_u_k (by decide)]
                  have t_4276 : (I_4270 o 6).toInt = (I_4240 o 6).toInt := by rw [← e_4271, q_u_k (by decide)]
                  have t_4277 : (I_4270 o 7).toInt = (I_4240 o 7).toInt := by rw [← e_4271, q_u_k (by decide)]
                  have t_4278 : (I_4270 o 8).toInt = (I_4240 o 8).toInt := by rw [← e_4271, q_u_k (by decide)]
                  have t_4279 : (I_4270 o 9).toInt = (I_4240 o 9).toInt := by rw [← e_4271, q_u_k (by decide)]
                  have t_4280 : (I_4270 o 44).toInt = (I_4240 o 44).toInt := by rw [← e_4271, q_u_k (by decide)]
                  have t_4281 : (I_4270 o 45).toInt = (I_4240 o 45).toInt := by rw [← e_4271, q_u_k (by decide)]
                  have t_4282 : (I_4270 o 47).toInt = (I_4240 o 47).toInt := by rw [← e_4271, q_u_k (by decide)]
                  have t_4283 : (I_4270 o 48).toInt = (I_4240 o 48).toInt := by rw [← e_4271, q_u_k (by decide)]
                  have t_4284 : (I_4270 o 46).toInt = ((I_4240 o 46) + 1).toInt := by rw [← e_4271, q_u_at]
                  have k_4285 : EX 0 0 0 f0 1 I_4270 o := k_4256.fr (by rw [← e_4271]; exact q_u_ne (by omega)) (by rw [← e_4271]; exact q_u_ne (by omega)) (by rw [← e_4271]; exact q_u_ne (by omega)) (by rw [← e_4271]; exact q_u_ne (by omega)) (by rw [← e_4271]; exact q_u_ne (by omega)) (by rw [← e_4271, q_u_k (by decide)]) (by rw [← e_4271, q_u_k (by decide)]) (by rw [← e_4271, q_u_k (by decide)]) (by rw [← e_4271, q_u_k (by decide)]) (by rw [← e_4271, q_u_k (by decide)]) (by rw [← e_4271, q_u_k (by decide)])
                  have k_4286 : MTd I_4270 o := k_4257.fr (by rw [← e_4271]; exact q_u_ne (by omega)) (by rw [← e_4271]; exact q_u_ne (by omega)) (by rw [← e_4271]; exact q_u_ne (by omega))
                  have k_4287 : MPo I_4270 o := k_4258.fr (by rw [← e_4271, q_u_k (by decide)]) (by rw [← e_4271, q_u_k (by decide)])
                  have k_4288 : MTk I_4270 o := k_4259.fr (by rw [← e_4271, q_u_k (by decide)]) (by rw [← e_4271, q_u_k (by decide)]) (by rw [← e_4271, q_u_k (by decide)])
                  refine y_Model_is hok hw ra hR_4272 (fun r_4289 u_4290 u_4291 u_4292 => ⟨r_4289, I_4270, L_4241, rfl, rfl, ?_⟩)
                  have b_4293 : 0 ≤ r_4289.toInt ∧ r_4289.toInt ≤ 1 := u_4290.rg
                  refine ⟨fun c_4294 => ?_, fun c_4294 => ?_⟩
                  · have d_4295 := iEq c_4294
                    have cd := k_4285.cod
                    have tk := k_4288.2 (by omega)
                    refine ⟨fun c_4296 => ?_, fun c_4296 => ?_⟩
                    · have d_4297 := iNe c_4296
                      have i_4298 := u_2716 (by omega)
                      have i_4299 := u_2717 (by omega)
                      exfalso; omega
                    · have d_4300 := iEq c_4296
                      unfold fModel_unit_228
                      have l_4301 : (78 : Int32).toInt = 78 := rfl
                      refine ⟨fun c_4302 => ?_, fun c_4302 => ?_⟩
                      · have d_4303 := iNe c_4302
                        have i_4304 := u_2716 (by omega)
                        have i_4305 := u_2717 (by omega)
                        exfalso; omega
                      · have d_4306 := iEq c_4302
                        refine y_Model_step hok hw ra hz55 (by first | omega | (intro h; omega) | exact Or.inl rfl | exact Or.inr rfl) (by first | omega | (intro h; omega) | exact Or.inl rfl | exact Or.inr rfl) hR_4272 (fun I_4310 L_4311 hR_4312 fr_4313 kp_4314 u_4308 u_4309 => ⟨I_4310, L_4311, rfl, rfl, ?_⟩)
                        have hf_4315 : Fm (fun c => c = o ∨ (o + 30 ≤ c ∧ c < o + 34)) I0 I_4310 := hf_4273.call fr_4313 (fun c hc => by first | exact hc | (dsimp only at hc ⊢; omega) | omega)
                        have t_4316 : (I_4310 o 3).toInt = (I_4270 o 3).toInt := by rw [kp_4314 3 rfl]
                        have t_4317 : (I_4310 o 4).toInt = (I_4270 o 4).toInt := by rw [kp_4314 4 rfl]
                        have t_4318 : (I_4310 o 6).toInt = (I_4270 o 6).toInt := by rw [kp_4314 6 rfl]
                        have t_4319 : (I_4310 o 7).toInt = (I_4270 o 7).toInt := by rw [kp_4314 7 rfl]
                        have t_4320 : (I_4310 o 8).toInt = (I_4270 o 8).toInt := by rw [kp_4314 8 rfl]
                        have t_4321 : (I_4310 o 9).toInt = (I_4270 o 9).toInt := by rw [kp_4314 9 rfl]
                        have t_4322 : (I_4310 o 44).toInt = (I_4270 o 44).toInt := by rw [kp_4314 44 rfl]
                        have g_4323 : (0 : Int) ≤ (I_4310 o 45).toInt ∧ (I_4310 o 45).toInt ≤ 700 := hR_4312.at0 ra 45 (by decide)
                        have t_4324 : (I_4310 o 47).toInt = (I_4270 o 47).toInt := by rw [kp_4314 47 rfl]
                        have t_4325 : (I_4310 o 48).toInt = (I_4270 o 48).toInt := by rw [kp_4314 48 rfl]
                        have t_4326 : (I_4310 o 46).toInt = (I_4270 o 46).toInt := by rw [kp_4314 46 rfl]
                        have k_4327 : MPo I_4310 o := k_4287.fr (kp_4314 8 rfl) (kp_4314 9 rfl)
                        have k_4328 : MTk I_4310 o := k_4288.fr (kp_4314 6 rfl) (kp_4314 7 rfl) (kp_4314 8 rfl)
                        have tk := k_4328.2 (by omega)
                        have k_4329 : EX 0 0 1 f0 0 I_4310 o := by exact EX.step1 k_4285 (by first | exact u_2716 (by omega) | (unfold isT; decide)) (by omega) (fr_4313 _ (by first | omega | (dsimp only; omega))) (fr_4313 _ (by first | omega | (dsimp only; omega))) u_4308 (fr_4313 _ (by first | omega | (dsimp only; omega))) (fr_4313 _ (by first | omega | (dsimp only; omega))) (kp_4314 3 rfl) (kp_4314 6 rfl) (kp_4314 44 rfl) u_4309 (kp_4314 47 rfl) (kp_4314 48 rfl)
                        have k_4330 : MTd I_4310 o := by exact MTd.step k_4286 (fr_4313 _ (by first | omega | (dsimp only; omega))) (fr_4313 _ (by first | omega | (dsimp only; omega))) u_4308 (by omega)
                        refine y_Model_next hok hw ra hz16 hz17 hz18 hz19 (by first | omega | (intro h; omega) | exact Or.inl rfl | exact Or.inr rfl) hR_4312 (fun I_4340 L_4341 hR_4342 fr_4343 kp_4344 u_4332 u_4333 u_4334 u_4335 u_4336 u_4337 u_4338 u_4339 => ⟨I_4340, L_4341, rfl, rfl, ?_⟩)
                        have hf_4345 : Fm (fun c => c = o ∨ (o + 30 ≤ c ∧ c < o + 34)) I0 I_4340 := hf_4315.call fr_4343 (fun c hc => by first | exact hc | (dsimp only at hc ⊢; omega) | omega)
                        have t_4346 : (I_4340 o 3).toInt = (I_4310 o 3).toInt := by rw [kp_4344 3 rfl]
                        have t_4347 : (I_4340 o 4).toInt = (I_4310 o 4).toInt := by rw [kp_4344 4 rfl]
                        have g_4348 : (0 : Int) ≤ (I_4340 o 6).toInt ∧ (I_4340 o 6).toInt ≤ 1600 := hR_4342.at0 ra 6 (by decide)
                        have g_4349 : (0 : Int) ≤ (I_4340 o 7).toInt ∧ (I_4340 o 7).toInt ≤ 1601 := hR_4342.at0 ra 7 (by decide)
                        have g_4350 : (0 : Int) ≤ (I_4340 o 8).toInt ∧ (I_4340 o 8).toInt ≤ 6 := hR_4342.at0 ra 8 (by decide)
                        have t_4351 : (I_4340 o 44).toInt = (I_4310 o 44).toInt := by rw [kp_4344 44 rfl]
                        have t_4352 : (I_4340 o 45).toInt = (I_4310 o 45).toInt := by rw [kp_4344 45 rfl]
                        have t_4353 : (I_4340 o 47).toInt = (I_4310 o 47).toInt := by rw [kp_4344 47 rfl]
                        have t_4354 : (I_4340 o 48).toInt = (I_4310 o 48).toInt := by rw [kp_4344 48 rfl]
                        have t_4355 : (I_4340 o 46).toInt = (I_4310 o 46).toInt := by rw [kp_4344 46 rfl]
                        have k_4356 : MTd I_4340 o := k_4330.fr (fr_4343 _ (by first | omega | (dsimp only; omega))) (fr_4343 _ (by first | omega | (dsimp only; omega))) (fr_4343 _ (by first | omega | (dsimp only; omega)))
                        have ms := u_4335 (by omega)
                        have k_4357 : EX 0 0 0 f0 0 I_4340 o := by exact EX.nx k_4329 (fr_4343 _ (by first | omega | (dsimp only; omega))) (fr_4343 _ (by first | omega | (dsimp only; omega))) (fr_4343 _ (by first | omega | (dsimp only; omega))) (fr_4343 _ (by first | omega | (dsimp only; omega))) (fr_4343 _ (by first | omega | (dsimp only; omega))) (kp_4344 3 rfl) (kp_4344 44 rfl) (kp_4344 45 rfl) (kp_4344 47 rfl) (kp_4344 48 rfl) (by omega) (by omega)
                        exact (hp _ _ _ hR_4342 hf_4345 (Or.inl rfl) (by first | omega | (intro h; omega) | exact Or.inl rfl | exact Or.inr rfl) (by first | omega | (intro h; omega) | exact Or.inl rfl | exact Or.inr rfl) (by first | omega | (intro h; omega) | exact Or.inl rfl | exact Or.inr rfl) (by first | omega | (intro h; omega) | exact Or.inl rfl | exact Or.inr rfl) (by first | omega | (intro h; omega) | exact Or.inl rfl | exact Or.inr rfl) (by first | (intro h; exfalso; omega) | exact fun _ => (False.elim (by omega)) | exact fun _ => k_4357) k_4356 u_4338 u_4339)
                  · have d_4358 := iNe c_4294
                    have i_4359 := u_4291 (by omega)
                    have i_4360 := u_4292 (by omega)
                    have g_4361 : (0 : Int) ≤ (I_4270 o 47).toInt ∧ (I_4270 o 47).toInt ≤ 7 := hR_4272.at0 ra 47 (by decide)
                    refine ⟨fun c_4362 => ?_, fun c_4362 => ?_⟩
                    · have d_4363 := iNe c_4362
                      refine y_Model_isGood hok hw ra hR_4272 (fun r_4364 u_4365 u_4366 u_4367 => ⟨r_4364, I_4270, L_4241, rfl, rfl, ?_⟩)
                      have b_4368 : 0 ≤ r_4364.toInt ∧ r_4364.toInt ≤ 1 := u_4365.rg
                      refine ⟨fun c_4369 => ?_, fun c_4369 => ?_⟩
                      · have d_4370 := iNe c_4369
                        have i_4371 := u_4366 (by omega)
                        refine y_Model_pile hok hw ra hz58 (by first | omega | (intro h; omega) | exact Or.inl rfl | exact Or.inr rfl) (by first | omega | (intro h; omega) | exact Or.inl rfl | exact Or.inr rfl) hR_4272 (fun I_4376 L_4377 hR_4378 fr_4379 kp_4380 u_4373 u_4374 u_4375 => ⟨I_4376, L_4377, rfl, rfl, ?_⟩)
                        have hf_4381 : Fm (fun c => c = o ∨ (o + 30 ≤ c ∧ c < o + 34)) I0 I_4376 := hf_4273.call fr_4379 (fun c hc => by first | exact hc | (dsimp only at hc ⊢; omega) | omega)
                        have t_4382 : (I_4376 o 3).toInt = (I_4270 o 3).toInt := by rw [kp_4380 3 rfl]
                        have t_4383 : (I_4376 o 4).toInt = (I_4270 o 4).toInt := by rw [kp_4380 4 rfl]
                        have t_4384 : (I_4376 o 6).toInt = (I_4270 o 6).toInt := by rw [kp_4380 6 rfl]
                        have t_4385 : (I_4376 o 7).toInt = (I_4270 o 7).toInt := by rw [kp_4380 7 rfl]
                        have t_4386 : (I_4376 o 8).toInt = (I_4270 o 8).toInt := by rw [kp_4380 8 rfl]
                        have t_4387 : (I_4376 o 9).toInt = (I_4270 o 9).toInt := by rw [kp_4380 9 rfl]
                        have t_4388 : (I_4376 o 44).toInt = (I_4270 o 44).toInt := by rw [kp_4380 44 rfl]
                        have t_4389 : (I_4376 o 45).toInt = (I_4270 o 45).toInt := by rw [kp_4380 45 rfl]
                        have t_4390 : (I_4376 o 47).toInt = (I_4270 o 47).toInt := by rw [kp_4380 47 rfl]
                        have g_4391 : (0 : Int) ≤ (I_4376 o 48).toInt ∧ (I_4376 o 48).toInt ≤ 80 := hR_4378.at0 ra 48 (by decide)
                        have t_4392 : (I_4376 o 46).toInt = (I_4270 o 46).toInt := by rw [kp_4380 46 rfl]
                        have k_4393 : MTd I_4376 o := k_4286.fr (fr_4379 _ (by first | omega | (dsimp only; omega))) (fr_4379 _ (by first | omega | (dsimp only; omega))) (fr_4379 _ (by first | omega | (dsimp only; omega)))
                        have k_4394 : MPo I_4376 o := k_4287.fr (kp_4380 8 rfl) (kp_4380 9 rfl)
                        have k_4395 : MTk I_4376 o := k_4288.fr (kp_4380 6 rfl) (kp_4380 7 rfl) (kp_4380 8 rfl)
                        have k_4396 : EX 0 1 1 f0 1 I_4376 o := by have z := EX.push k_4285 (v := 7) (s := 0) (dB := 1) (dO := 0) (wt' := 1) (by decide) (by decide) (by decide) (by omega) ⟨by decide, by decide⟩ ⟨fun h => absurd h (by decide), fun h => absurd h (by decide)⟩ (Or.inl rfl) (fr_4379 _ (by first | omega | (dsimp only; omega))) (fr_4379 _ (by first | omega | (dsimp only; omega))) (fr_4379 _ (by first | omega | (dsimp only; omega))) u_4373 u_4374 (kp_4380 3 rfl) (kp_4380 6 rfl) (kp_4380 44 rfl) (kp_4380 45 rfl) (kp_4380 47 rfl) u_4375; exact EX.chg (b' := 1) z rfl rfl rfl rfl rfl rfl rfl rfl rfl rfl (by omega) z.pl
                        have g_4397 : (0 : Int) ≤ (I_4376 o 47).toInt ∧ (I_4376 o 47).toInt ≤ 7 := hR_4378.at0 ra 47 (by decide)
                        have a_4398 : ((I_4376 o 47) + 1).toInt = (I_4376 o 47).toInt + (1 : Int32).toInt := tAdd (by omega) (by omega)
                        refine fun I_4399 e_4400 => ?_
                        have hR_4401 : RI R I_4399 := hR_4378.up0 (k := 47) ra (by decide) (Or.inr hz57) e_4400 (show (0 : Int) ≤ ((I_4376 o 47) + 1).toInt by omega) (show ((I_4376 o 47) + 1).toInt ≤ (7 : Int) by omega)
                        have hf_4402 : Fm (fun c => c = o ∨ (o + 30 ≤ c ∧ c < o + 34)) I0 I_4399 := hf_4381.set (by first | rfl | omega | (dsimp only; omega)) e_4400
                        have t_4403 : (I_4399 o 3).toInt = (I_4376 o 3).toInt := by rw [← e_4400, q_u_k (by decide)]
                        have t_4404 : (I_4399 o 4).toInt = (I_4376 o 4).toInt := by rw [← e_4400, q_u_k (by decide)]
                        have t_4405 : (I_4399 o 6).toInt = (I_4376 o 6).toInt := by rw [← e_4400, q_u_k (by decide)]
                        have t_4406 : (I_4399 o 7).toInt = (I_4376 o 7).toInt := by rw [← e_4400, q_u_k (by decide)]
                        have t_4407 : (I_4399 o 8).toInt = (I_4376 o 8).toInt := by rw [← e_4400, q_u_k (by decide)]
                        have t_4408 : (I_4399 o 9).toInt = (I_4376 o 9).toInt := by rw [← e_4400, q_u_k (by decide)]
                        have t_4409 : (I_4399 o 44).toInt = (I_4376 o 44).toInt := by rw [← e_4400, q_u_k (by decide)]
                        have t_4410 : (I_4399 o 45).toInt = (I_4376 o 45).toInt := by rw [← e_4400, q_u_k (by decide)]
                        have t_4411 : (I_4399 o 47).toInt = ((I_4376 o 47) + 1).toInt := by rw [← e_4400, q_u_at]
                        have t_4412 : (I_4399 o 48).toInt = (I_4376 o 48).toInt := by rw [← e_4400, q_u_k (by decide)]
                        have t_4413 : (I_4399 o 46).toInt = (I_4376 o 46).toInt := by rw [← e_4400, q_u_k (by decide)]
                        have k_4414 : MTd I_4399 o := k_4393.fr (by rw [← e_4400]; exact q_u_ne (by omega)) (by rw [← e_4400]; exact q_u_ne (by omega)) (by rw [← e_4400]; exact q_u_ne (by omega))
                        have k_4415 : MPo I_4399 o := k_4394.fr (by rw [← e_4400, q_u_k (by decide)]) (by rw [← e_4400, q_u_k (by decide)])
                        have k_4416 : MTk I_4399 o := k_4395.fr (by rw [← e_4400, q_u_k (by decide)]) (by rw [← e_4400, q_u_k (by decide)]) (by rw [← e_4400, q_u_k (by decide)])
                        have tk := k_4416.2 (by omega)
                        have k_4418 : EX 0 0 1 f0 1 I_4399 o := by exact EX.put47 k_4396 e_4400 (by omega)
                        refine y_Model_next hok hw ra hz16 hz17 hz18 hz19 (by first | omega | (intro h; omega) | exact Or.inl rfl | exact Or.inr rfl) hR_4401 (fun I_4428 L_4429 hR_4430 fr_4431 kp_4432 u_4420 u_4421 u_4422 u_4423 u_4424 u_4425 u_4426 u_4427 => ⟨I_4428, L_4429, rfl, rfl, ?_⟩)
                        have hf_4433 : Fm (fun c => c = o ∨ (o + 30 ≤ c ∧ c < o + 34)) I0 I_4428 := hf_4402.call fr_4431 (fun c hc => by first | exact hc | (dsimp only at hc ⊢; omega) | omega)
                        have t_4434 : (I_4428 o 3).toInt = (I_4399 o 3).toInt := by rw [kp_4432 3 rfl]
                        have t_4435 : (I_4428 o 4).toInt = (I_4399 o 4).toInt := by rw [kp_4432 4 rfl]
                        have g_4436 : (0 : Int) ≤ (I_4428 o 6).toInt ∧ (I_4428 o 6).toInt ≤ 1600 := hR_4430.at0 ra 6 (by decide)
                        have g_4437 : (0 : Int) ≤ (I_4428 o 7).toInt ∧ (I_4428 o 7).toInt ≤ 1601 := hR_4430.at0 ra 7 (by decide)
                        have g_4438 : (0 : Int) ≤ (I_4428 o 8).toInt ∧ (I_4428 o 8).toInt ≤ 6 := hR_4430.at0 ra 8 (by decide)
                        have t_4439 : (I_4428 o 44).toInt = (I_4399 o 44).toInt := by rw [kp_4432 44 rfl]
                        have t_4440 : (I_4428 o 45).toInt = (I_4399 o 45).toInt := by rw [kp_4432 45 rfl]
                        have t_4441 : (I_4428 o 47).toInt = (I_4399 o 47).toInt := by rw [kp_4432 47 rfl]
                        have t_4442 : (I_4428 o 48).toInt = (I_4399 o 48).toInt := by rw [kp_4432 48 rfl]
                        have t_4443 : (I_4428 o 46).toInt = (I_4399 o 46).toInt := by rw [kp_4432 46 rfl]
                        have k_4444 : MTd I_4428 o := k_4414.fr (fr_4431 _ (by first | omega | (dsimp only; omega))) (fr_4431 _ (by first | omega | (dsimp only; omega))) (fr_4431 _ (by first | omega | (dsimp only; omega)))
                        have ms := u_4423 (by omega)
                        have k_4445 : EX 0 0 0 f0 1 I_4428 o := by exact EX.nx k_4418 (fr_4431 _ (by first | omega | (dsimp only; omega))) (fr_4431 _ (by first | omega | (dsimp only; omega))) (fr_4431 _ (by first | omega | (dsimp only; omega))) (fr_4431 _ (by first | omega | (dsimp only; omega))) (fr_4431 _ (by first | omega | (dsimp only; omega))) (kp_4432 3 rfl) (kp_4432 44 rfl) (kp_4432 45 rfl) (kp_4432 47 rfl) (kp_4432 48 rfl) (by omega) (by omega)
                        exact (hp _ _ _ hR_4430 hf_4433 (Or.inr rfl) (by first | omega | (intro h; omega) | exact Or.inl rfl | exact Or.inr rfl) (by first | omega | (intro h; omega) | exact Or.inl rfl | exact Or.inr rfl) (by first | omega | (intro h; omega) | exact Or.inl rfl | exact Or.inr rfl) (by first | omega | (intro h; omega) | exact Or.inl rfl | exact Or.inr rfl) (by first | omega | (intro h; omega) | exact Or.inl rfl | exact Or.inr rfl) (by first | (intro h; exfalso; omega) | exact fun _ => k_4445 | exact fun _ => (False.elim (by omega))) k_4444 u_4426 u_4427)
                      · have d_4446 := iEq c_4369
                        have i_4447 := u_4367 (by omega)
                        exact (hp _ _ _ hR_4272 hf_4273 (Or.inr rfl) (by first | omega | (intro h; omega) | exact Or.inl rfl | exact Or.inr rfl) (by first | omega | (intro h; omega) | exact Or.inl rfl | exact Or.inr rfl) (by first | omega | (intro h; omega) | exact Or.inl rfl | exact Or.inr rfl) (by first | omega | (intro h; omega) | exact Or.inl rfl | exact Or.inr rfl) (by first | omega | (intro h; omega) | exact Or.inl rfl | exact Or.inr rfl) (by first | (intro h; exfalso; omega) | exact fun _ => k_4285 | exact fun _ => (False.elim (by omega))) k_4286 k_4287 k_4288)
                    · have d_4448 := iEq c_4362
                      refine y_Model_wrong hok hw ra hz14 hz15 hR_4272 (fun I_4452 L_4453 hR_4454 fr_4455 kp_4456 u_4450 u_4451 => ⟨I_4452, L_4453, rfl, rfl, ?_⟩)
                      have hf_4457 : Fm (fun c => c = o ∨ (o + 30 ≤ c ∧ c < o + 34)) I0 I_4452 := hf_4273.call fr_4455 (fun c hc => by first | exact hc | (dsimp only at hc ⊢; omega) | omega)
                      have t_4458 : (I_4452 o 3).toInt = (I_4270 o 3).toInt := by rw [kp_4456 3 rfl]
                      have g_4459 : (0 : Int) ≤ (I_4452 o 4).toInt ∧ (I_4452 o 4).toInt ≤ 5 := hR_4454.at0 ra 4 (by decide)
                      have t_4460 : (I_4452 o 6).toInt = (I_4270 o 6).toInt := by rw [kp_4456 6 rfl]
                      have t_4461 : (I_4452 o 7).toInt = (I_4270 o 7).toInt := by rw [kp_4456 7 rfl]
                      have t_4462 : (I_4452 o 8).toInt = (I_4270 o 8).toInt := by rw [kp_4456 8 rfl]
                      have t_4463 : (I_4452 o 9).toInt = (I_4270 o 9).toInt := by rw [kp_4456 9 rfl]
                      have t_4464 : (I_4452 o 44).toInt = (I_4270 o 44).toInt := by rw [kp_4456 44 rfl]
                      have t_4465 : (I_4452 o 45).toInt = (I_4270 o 45).toInt := by rw [kp_4456 45 rfl]
                      have t_4466 : (I_4452 o 47).toInt = (I_4270 o 47).toInt := by rw [kp_4456 47 rfl]
                      have t_4467 : (I_4452 o 48).toInt = (I_4270 o 48).toInt := by rw [kp_4456 48 rfl]
                      have t_4468 : (I_4452 o 46).toInt = (I_4270 o 46).toInt := by rw [kp_4456 46 rfl]
                      have k_4469 : EX 0 0 0 f0 1 I_4452 o := k_4285.fr (fr_4455 _ (by first | omega | (dsimp only; omega))) (fr_4455 _ (by first | omega | (dsimp only; omega))) (fr_4455 _ (by first | omega | (dsimp only; omega))) (fr_4455 _ (by first | omega | (dsimp only; omega))) (fr_4455 _ (by first | omega | (dsimp only; omega))) (kp_4456 3 rfl) (kp_4456 6 rfl) (kp_4456 44 rfl) (kp_4456 45 rfl) (kp_4456 47 rfl) (kp_4456 48 rfl)
                      have k_4470 : MTd I_4452 o := k_4286.fr (fr_4455 _ (by first | omega | (dsimp only; omega))) (fr_4455 _ (by first | omega | (dsimp only; omega))) (fr_4455 _ (by first | omega | (dsimp only; omega)))
                      have k_4471 : MPo I_4452 o := k_4287.fr (kp_4456 8 rfl) (kp_4456 9 rfl)
                      have k_4472 : MTk I_4452 o := k_4288.fr (kp_4456 6 rfl) (kp_4456 7 rfl) (kp_4456 8 rfl)
                      refine y_Model_isGood hok hw ra hR_4454 (fun r_4473 u_4474 u_4475 u_4476 => ⟨r_4473, I_4452, L_4453, rfl, rfl, ?_⟩)
                      have b_4477 : 0 ≤ r_4473.toInt ∧ r_4473.toInt ≤ 1 := u_4474.rg
                      refine ⟨fun c_4478 => ?_, fun c_4478 => ?_⟩
                      · have d_4479 := iNe c_4478
                        have i_4480 := u_4475 (by omega)
                        refine y_Model_pile hok hw ra hz58 (by first | omega | (intro h; omega) | exact Or.inl rfl | exact Or.inr rfl) (by first | omega | (intro h; omega) | exact Or.inl rfl | exact Or.inr rfl) hR_4454 (fun I_4485 L_4486 hR_4487 fr_4488 kp_4489 u_4482 u_4483 u_4484 => ⟨I_4485, L_4486, rfl, rfl, ?_⟩)
                        have hf_4490 : Fm (fun c => c = o ∨ (o + 30 ≤ c ∧ c < o + 34)) I0 I_4485 := hf_4457.call fr_4488 (fun c hc => by first | exact hc | (dsimp only at hc ⊢; omega) | omega)
                        have t_4491 : (I_4485 o 3).toInt = (I_4452 o 3).toInt := by rw [kp_4489 3 rfl]
                        have t_4492 : (I_4485 o 4).toInt = (I_4452 o 4).toInt := by rw [kp_4489 4 rfl]
                        have t_4493 : (I_4485 o 6).toInt = (I_4452 o 6).toInt := by rw [kp_4489 6 rfl]
                        have t_4494 : (I_4485 o 7).toInt = (I_4452 o 7).toInt := by rw [kp_4489 7 rfl]
                        have t_4495 : (I_4485 o 8).toInt = (I_4452 o 8).toInt := by rw [kp_4489 8 rfl]
                        have t_4496 : (I_4485 o 9).toInt = (I_4452 o 9).toInt := by rw [kp_4489 9 rfl]
                        have t_4497 : (I_4485 o 44).toInt = (I_4452 o 44).toInt := by rw [kp_4489 44 rfl]
                        have t_4498 : (I_4485 o 45).toInt = (I_4452 o 45).toInt := by rw [kp_4489 45 rfl]
                        have t_4499 : (I_4485 o 47).toInt = (I_4452 o 47).toInt := by rw [kp_4489 47 rfl]
                        have g_4500 : (0 : Int) ≤ (I_4485 o 48).toInt ∧ (I_4485 o 48).toInt ≤ 80 := hR_4487.at0 ra 48 (by decide)
                        have t_4501 : (I_4485 o 46).toInt = (I_4452 o 46).toInt := by rw [kp_4489 46 rfl]
                        have k_4502 : MTd I_4485 o := k_4470.fr (fr_4488 _ (by first | omega | (dsimp only; omega))) (fr_4488 _ (by first | omega | (dsimp only; omega))) (fr_4488 _ (by first | omega | (dsimp only; omega)))
                        have k_4503 : MPo I_4485 o := k_4471.fr (kp_4489 8 rfl) (kp_4489 9 rfl)
                        have k_4504 : MTk I_4485 o := k_4472.fr (kp_4489 6 rfl) (kp_4489 7 rfl) (kp_4489 8 rfl)
                        have k_4505 : EX 0 1 1 f0 1 I_4485 o := by have z := EX.push k_4469 (v := 7) (s := 0) (dB := 1) (dO := 0) (wt' := 1) (by decide) (by decide) (by decide) (by omega) ⟨by decide, by decide⟩ ⟨fun h => absurd h (by decide), fun h => absurd h (by decide)⟩ (Or.inl rfl) (fr_4488 _ (by first | omega | (dsimp only; omega))) (fr_4488 _ (by first | omega | (dsimp only; omega))) (fr_4488 _ (by first | omega | (dsimp only; omega))) u_4482 u_4483 (kp_4489 3 rfl) (kp_4489 6 rfl) (kp_4489 44 rfl) (kp_4489 45 rfl) (kp_4489 47 rfl) u_4484; exact EX.chg (b' := 1) z rfl rfl rfl rfl rfl rfl rfl rfl rfl rfl (by omega) z.pl
                        have g_4506 : (0 : Int) ≤ (I_4485 o 47).toInt ∧ (I_4485 o 47).toInt ≤ 7 := hR_4487.at0 ra 47 (by decide)
                        have a_4507 : ((I_4485 o 47) + 1).toInt = (I_4485 o 47).toInt + (1 : Int32).toInt := tAdd (by omega) (by omega)
                        refine fun I_4508 e_4509 => ?_
                        have hR_4510 : RI R I_4508 := hR_4487.up0 (k := 47) ra (by decide) (Or.inr hz57) e_4509 (show (0 : Int) ≤ ((I_4485 o 47) + 1).toInt by omega) (show ((I_4485 o 47) + 1).toInt ≤ (7 : Int) by omega)
                        have hf_4511 : Fm (fun c => c = o ∨ (o + 30 ≤ c ∧ c < o + 34)) I0 I_4508 := hf_4490.set (by first | rfl | omega | (dsimp only; omega)) e_4509
                        have t_4512 : (I_4508 o 3).toInt = (I_4485 o 3).toInt := by rw [← e_4509, q_u_k (by decide)]
                        have t_4513 : (I_4508 o 4).toInt = (I_4485 o 4).toInt := by rw [← e_4509, q_u_k (by decide)]
                        have t_4514 : (I_4508 o 6).toInt = (I_4485 o 6).toInt := by rw [← e_4509, q_u_k (by decide)]
                        have t_4515 : (I_4508 o 7).toInt = (I_4485 o 7).toInt := by rw [← e_4509, q_u_k (by decide)]
                        have t_4516 : (I_4508 o 8).toInt = (I_4485 o 8).toInt := by rw [← e_4509, q_u_k (by decide)]
                        have t_4517 : (I_4508 o 9).toInt = (I_4485 o 9).toInt := by rw [← e_4509, q_u_k (by decide)]
                        have t_4518 : (I_4508 o 44).toInt = (I_4485 o 44).toInt := by rw [← e_4509, q_u_k (by decide)]
                        have t_4519 : (I_4508 o 45).toInt = (I_4485 o 45).toInt := by rw [← e_4509, q_u_k (by decide)]
                        have t_4520 : (I_4508 o 47).toInt = ((I_4485 o 47) + 1).toInt := by rw [← e_4509, q_u_at]
                        have t_4521 : (I_4508 o 48).toInt = (I_4485 o 48).toInt := by rw [← e_4509, q_u_k (by decide)]
                        have t_4522 : (I_4508 o 46).toInt = (I_4485 o 46).toInt := by rw [← e_4509, q_u_k (by decide)]
                        have k_4523 : MTd I_4508 o := k_4502.fr (by rw [← e_4509]; exact q_u_ne (by omega)) (by rw [← e_4509]; exact q_u_ne (by omega)) (by rw [← e_4509]; exact q_u_ne (by omega))
                        have k_4524 : MPo I_4508 o := k_4503.fr (by rw [← e_4509, q_u_k (by decide)]) (by rw [← e_4509, q_u_k (by decide)])
                        have k_4525 : MTk I_4508 o := k_4504.fr (by rw [← e_4509, q_u_k (by decide)]) (by rw [← e_4509, q_u_k (by decide)]) (by rw [← e_4509, q_u_k (by decide)])
                        have tk := k_4525.2 (by omega)
                        have k_4527 : EX 0 0 1 f0 1 I_4508 o := by exact EX.put47 k_4505 e_4509 (by omega)
                        refine y_Model_next hok hw ra hz16 hz17 hz18 hz19 (by first | omega | (intro h; omega) | exact Or.inl rfl | exact Or.inr rfl) hR_4510 (fun I_4537 L_4538 hR_4539 fr_4540 kp_4541 u_4529 u_4530 u_4531 u_4532 u_4533 u_4534 u_4535 u_4536 => ⟨I_4537, L_4538, rfl, rfl, ?_⟩)
                        have hf_4542 : Fm (fun c => c = o ∨ (o + 30 ≤ c ∧ c < o + 34)) I0 I_4537 := hf_4511.call fr_4540 (fun c hc => by first | exact hc | (dsimp only at hc ⊢; omega) | omega)
                        have t_4543 : (I_4537 o 3).toInt = (I_4508 o 3).toInt := by rw [kp_4541 3 rfl]
                        have t_4544 : (I_4537 o 4).toInt = (I_4508 o 4).toInt := by rw [kp_4541 4 rfl]
                        have g_4545 : (0 : Int) ≤ (I_4537 o 6).toInt ∧ (I_4537 o 6).toInt ≤ 1600 := hR_4539.at0 ra 6 (by decide)
                        have g_4546 : (0 : Int) ≤ (I_4537 o 7).toInt ∧ (I_4537 o 7).toInt ≤ 1601 := hR_4539.at0 ra 7 (by decide)
                        have g_4547 : (0 : Int) ≤ (I_4537 o 8).toInt ∧ (I_4537 o 8).toInt ≤ 6 := hR_4539.at0 ra 8 (by decide)
                        have t_4548 : (I_4537 o 44).toInt = (I_4508 o 44).toInt := by rw [kp_4541 44 rfl]
                        have t_4549 : (I_4537 o 45).toInt = (I_4508 o 45).toInt := by rw [kp_4541 45 rfl]
                        have t_4550 : (I_4537 o 47).toInt = (I_4508 o 47).toInt := by rw [kp_4541 47 rfl]
                        have t_4551 : (I_4537 o 48).toInt = (I_4508 o 48).toInt := by rw [kp_4541 48 rfl]
                        have t_4552 : (I_4537 o 46).toInt = (I_4508 o 46).toInt := by rw [kp_4541 46 rfl]
                        have k_4553 : MTd I_4537 o := k_4523.fr (fr_4540 _ (by first | omega | (dsimp only; omega))) (fr_4540 _ (by first | omega | (dsimp only; omega))) (fr_4540 _ (by first | omega | (dsimp only; omega)))
                        have ms := u_4532 (by omega)
                        have k_4554 : EX 0 0 0 f0 1 I_4537 o := by exact EX.nx k_4527 (fr_4540 _ (by first | omega | (dsimp only; omega))) (fr_4540 _ (by first | omega | (dsimp only; omega))) (fr_4540 _ (by first | omega | (dsimp only; omega))) (fr_4540 _ (by first | omega | (dsimp only; omega))) (fr_4540 _ (by first | omega | (dsimp only; omega))) (kp_4541 3 rfl) (kp_4541 44 rfl) (kp_4541 45 rfl) (kp_4541 47 rfl) (kp_4541 48 rfl) (by omega) (by omega)
                        exact (hp _ _ _ hR_4539 hf_4542 (Or.inr rfl) (by first | omega | (intro h; omega) | exact Or.inl rfl | exact Or.inr rfl) (by first | omega | (intro h; omega) | exact Or.inl rfl | exact Or.inr rfl) (by first | omega | (intro h; omega) | exact Or.inl rfl | exact Or.inr rfl) (by first | omega | (intro h; omega) | exact Or.inl rfl | exact Or.inr rfl) (by first | omega | (intro h; omega) | exact Or.inl rfl | exact Or.inr rfl) (by first | (intro h; exfalso; omega) | exact fun _ => k_4554 | exact fun _ => (False.elim (by omega))) k_4553 u_4535 u_4536)
                      · have d_4555 := iEq c_4478
                        have i_4556 := u_4476 (by omega)
                        exact (hp _ _ _ hR_4454 hf_4457 (Or.inr rfl) (by first | omega | (intro h; omega) | exact Or.inl rfl | exact Or.inr rfl) (by first | omega | (intro h; omega) | exact Or.inl rfl | exact Or.inr rfl) (by first | omega | (intro h; omega) | exact Or.inl rfl | exact Or.inr rfl) (by first | omega | (intro h; omega) | exact Or.inl rfl | exact Or.inr rfl) (by first | omega | (intro h; omega) | exact Or.inl rfl | exact Or.inr rfl) (by first | (intro h; exfalso; omega) | exact fun _ => k_4469 | exact fun _ => (False.elim (by omega))) k_4470 k_4471 k_4472)
                · have d_4557 := iEq c_4265
                  have i_4558 := u_4263 (by omega)
                  exact (hp _ _ _ hR_4242 hf_4245 (Or.inr rfl) (by first | omega | (intro h; omega) | exact Or.inl rfl | exact Or.inr rfl) (by first | omega | (intro h; omega) | exact Or.inl rfl | exact Or.inr rfl) (by first | omega | (intro h; omega) | exact Or.inl rfl | exact Or.inr rfl) (by first | omega | (intro h; omega) | exact Or.inl rfl | exact Or.inr rfl) (by first | omega | (intro h; omega) | exact Or.inl rfl | exact Or.inr rfl) (by first | (intro h; exfalso; omega) | exact fun _ => k_4256 | exact fun _ => (False.elim (by omega))) k_4257 k_4258 k_4259)
              · have d_4559 := iNe c_4235
                have i_4560 := u_4232 (by omega)
                have i_4561 := u_4233 (by omega)
                unfold fModel_unit_131
                have g_4562 : (0 : Int) ≤ (I_2719 o 46).toInt ∧ (I_2719 o 46).toInt ≤ 100 := hR_2721.at0 ra 46 (by decide)
                have l_4563 : (100 : Int32).toInt = 100 := rfl
                refine ⟨fun c_4564 => ?_, fun c_4564 => ?_⟩
                · have d_4565 := iNe c_4564
                  refine y_Model_isGood hok hw ra hR_2721 (fun r_4566 u_4567 u_4568 u_4569 => ⟨r_4566, I_2719, L_2720, rfl, rfl, ?_⟩)
                  have b_4570 : 0 ≤ r_4566.toInt ∧ r_4566.toInt ≤ 1 := u_4567.rg
                  refine ⟨fun c_4571 => ?_, fun c_4571 => ?_⟩
                  · have d_4572 := iNe c_4571
                    have i_4573 := u_4568 (by omega)
                    have g_4574 : (0 : Int) ≤ (I_2719 o 46).toInt ∧ (I_2719 o 46).toInt ≤ 100 := hR_2721.at0 ra 46 (by decide)
                    have a_4575 : ((I_2719 o 46) + 1).toInt = (I_2719 o 46).toInt + (1 : Int32).toInt := tAdd (by omega) (by omega)
                    refine fun I_4576 e_4577 => ?_
                    have hR_4578 : RI R I_4576 := hR_2721.up0 (k := 46) ra (by decide) (Or.inr hz56) e_4577 (show (0 : Int) ≤ ((I_2719 o 46) + 1).toInt by omega) (show ((I_2719 o 46) + 1).toInt ≤ (100 : Int) by omega)
                    have hf_4579 : Fm (fun c => c = o ∨ (o + 30 ≤ c ∧ c < o + 34)) I0 I_4576 := hf_2724.set (by first | rfl | omega | (dsimp only; omega)) e_4577
                    have t_4580 : (I_4576 o 3).toInt = (I_2719 o 3).toInt := by rw [← e_4577, q_u_k (by decide)]
                    have t_4581 : (I_4576 o 4).toInt = (I_2719 o 4).toInt := by rw [← e_4577, q_u_k (by decide)]
                    have t_4582 : (I_4576 o 6).toInt = (I_2719 o 6).toInt := by rw [← e_4577, q_u_k (by decide)]
                    have t_4583 : (I_4576 o 7).toInt = (I_2719 o 7).toInt := by rw [← e_4577, q_u_k (by decide)]
                    have t_4584 : (I_4576 o 8).toInt = (I_2719 o 8).toInt := by rw [← e_4577, q_u_k (by decide)]
                    have t_4585 : (I_4576 o 9).toInt = (I_2719 o 9).toInt := by rw [← e_4577, q_u_k (by decide)]
                    have t_4586 : (I_4576 o 44).toInt = (I_2719 o 44).toInt := by rw [← e_4577, q_u_k (by decide)]
                    have t_4587 : (I_4576 o 45).toInt = (I_2719 o 45).toInt := by rw [← e_4577, q_u_k (by decide)]
                    have t_4588 : (I_4576 o 47).toInt = (I_2719 o 47).toInt := by rw [← e_4577, q_u_k (by decide)]
                    have t_4589 : (I_4576 o 48).toInt = (I_2719 o 48).toInt := by rw [← e_4577, q_u_k (by decide)]
                    have t_4590 : (I_4576 o 46).toInt = ((I_2719 o 46) + 1).toInt := by rw [← e_4577, q_u_at]
                    have k_4591 : EX 0 0 0 f0 1 I_4576 o := k_2735.fr (by rw [← e_4577]; exact q_u_ne (by omega)) (by rw [← e_4577]; exact q_u_ne (by omega)) (by rw [← e_4577]; exact q_u_ne (by omega)) (by rw [← e_4577]; exact q_u_ne (by omega)) (by rw [← e_4577]; exact q_u_ne (by omega)) (by rw [← e_4577, q_u_k (by decide)]) (by rw [← e_4577, q_u_k (by decide)]) (by rw [← e_4577, q_u_k (by decide)]) (by rw [← e_4577, q_u_k (by decide)]) (by rw [← e_4577, q_u_k (by decide)]) (by rw [← e_4577, q_u_k (by decide)])
                    have k_4592 : MTd I_4576 o := k_2736.fr (by rw [← e_4577]; exact q_u_ne (by omega)) (by rw [← e_4577]; exact q_u_ne (by omega)) (by rw [← e_4577]; exact q_u_ne (by omega))
                    have k_4593 : MPo I_4576 o := k_2737.fr (by rw [← e_4577, q_u_k (by decide)]) (by rw [← e_4577, q_u_k (by decide)])
                    have k_4594 : MTk I_4576 o := k_2738.fr (by rw [← e_4577, q_u_k (by decide)]) (by rw [← e_4577, q_u_k (by decide)]) (by rw [← e_4577, q_u_k (by decide)])
                    refine y_Model_is hok hw ra hR_4578 (fun r_4595 u_4596 u_4597 u_4598 => ⟨r_4595, I_4576, L_2720, rfl, rfl, ?_⟩)
                    have b_4599 : 0 ≤ r_4595.toInt ∧ r_4595.toInt ≤ 1 := u_4596.rg
                    refine ⟨fun c_4600 => ?_, fun c_4600 => ?_⟩
                    · have d_4601 := iEq c_4600
                      have cd := k_4591.cod
                      have tk := k_4594.2 (by omega)
                      refine ⟨fun c_4602 => ?_, fun c_4602 => ?_⟩
                      · have d_4603 := iNe c_4602
                        have i_4604 := u_2716 (by omega)
                        have i_4605 := u_2717 (by omega)
                        exfalso; omega
                      · have d_4606 := iEq c_4602
                        unfold fModel_unit_228
                        have l_4607 : (78 : Int32).toInt = 78 := rfl
                        refine ⟨fun c_4608 => ?_, fun c_4608 => ?_⟩
                        · have d_4609 := iNe c_4608
                          have i_4610 := u_2716 (by omega)
                          have i_4611 := u_2717 (by omega)
                          exfalso; omega
                        · have d_4612 := iEq c_4608
                          refine y_Model_step hok hw ra hz55 (by first | omega | (intro h; omega) | exact Or.inl rfl | exact Or.inr rfl) (by first | omega | (intro h; omega) | exact Or.inl rfl | exact Or.inr rfl) hR_4578 (fun I_4616 L_4617 hR_4618 fr_4619 kp_4620 u_4614 u_4615 => ⟨I_4616, L_4617, rfl, rfl, ?_⟩)
                          have hf_4621 : Fm (fun c => c = o ∨ (o + 30 ≤ c ∧ c < o + 34)) I0 I_4616 := hf_4579.call fr_4619 (fun c hc => by first | exact hc | (dsimp only at hc ⊢; omega) | omega)
                          have t_4622 : (I_4616 o 3).toInt = (I_4576 o 3).toInt := by rw [kp_4620 3 rfl]
                          have t_4623 : (I_4616 o 4).toInt = (I_4576 o 4).toInt := by rw [kp_4620 4 rfl]
                          have t_4624 : (I_4616 o 6).toInt = (I_4576 o 6).toInt := by rw [kp_4620 6 rfl]
                          have t_4625 : (I_4616 o 7).toInt = (I_4576 o 7).toInt := by rw [kp_4620 7 rfl]
                          have t_4626 : (I_4616 o 8).toInt = (I_4576 o 8).toInt := by rw [kp_4620 8 rfl]
                          have t_4627 : (I_4616 o 9).toInt = (I_4576 o 9).toInt := by rw [kp_4620 9 rfl]
                          have t_4628 : (I_4616 o 44).toInt = (I_4576 o 44).toInt := by rw [kp_4620 44 rfl]
                          have g_4629 : (0 : Int) ≤ (I_4616 o 45).toInt ∧ (I_4616 o 45).toInt ≤ 700 := hR_4618.at0 ra 45 (by decide)
                          have t_4630 : (I_4616 o 47).toInt = (I_4576 o 47).toInt := by rw [kp_4620 47 rfl]
                          have t_4631 : (I_4616 o 48).toInt = (I_4576 o 48).toInt := by rw [kp_4620 48 rfl]
                          have t_4632 : (I_4616 o 46).toInt = (I_4576 o 46).toInt := by rw [kp_4620 46 rfl]
                          have k_4633 : MPo I_4616 o := k_4593.fr (kp_4620 8 rfl) (kp_4620 9 rfl)
                          have k_4634 : MTk I_4616 o := k_4594.fr (kp_4620 6 rfl) (kp_4620 7 rfl) (kp_4620 8 rfl)
                          have tk := k_4634.2 (by omega)
                          have k_4635 : EX 0 0 1 f0 0 I_4616 o := by exact EX.step1 k_4591 (by first | exact u_2716 (by omega) | (unfold isT; decide)) (by omega) (fr_4619 _ (by first | omega | (dsimp only; omega))) (fr_4619 _ (by first | omega | (dsimp only; omega))) u_4614 (fr_4619 _ (by first | omega | (dsimp only; omega))) (fr_4619 _ (by first | omega | (dsimp only; omega))) (kp_4620 3 rfl) (kp_4620 6 rfl) (kp_4620 44 rfl) u_4615 (kp_4620 47 rfl) (kp_4620 48 rfl)
                          have k_4636 : MTd I_4616 o := by exact MTd.step k_4592 (fr_4619 _ (by first | omega | (dsimp only; omega))) (fr_4619 _ (by first | omega | (dsimp only; omega))) u_4614 (by omega)
                          refine y_Model_next hok hw ra hz16 hz17 hz18 hz19 (by first | omega | (intro h; omega) | exact Or.inl rfl | exact Or.inr rfl) hR_4618 (fun I_4646 L_4647 hR_4648 fr_4649 kp_4650 u_4638 u_4639 u_4640 u_4641 u_4642 u_4643 u_4644 u_4645 => ⟨I_4646, L_4647, rfl, rfl, ?_⟩)
                          have hf_4651 : Fm (fun c => c = o ∨ (o + 30 ≤ c ∧ c < o + 34)) I0 I_4646 := hf_4621.call fr_4649 (fun c hc => by first | exact hc | (dsimp only at hc ⊢; omega) | omega)
                          have t_4652 : (I_4646 o 3).toInt = (I_4616 o 3).toInt := by rw [kp_4650 3 rfl]
                          have t_4653 : (I_4646 o 4).toInt = (I_4616 o 4).toInt := by rw [kp_4650 4 rfl]
                          have g_4654 : (0 : Int) ≤ (I_4646 o 6).toInt ∧ (I_4646 o 6).toInt ≤ 1600 := hR_4648.at0 ra 6 (by decide)
                          have g_4655 : (0 : Int) ≤ (I_4646 o 7).toInt ∧ (I_4646 o 7).toInt ≤ 1601 := hR_4648.at0 ra 7 (by decide)
                          have g_4656 : (0 : Int) ≤ (I_4646 o 8).toInt ∧ (I_4646 o 8).toInt ≤ 6 := hR_4648.at0 ra 8 (by decide)
                          have t_4657 : (I_4646 o 44).toInt = (I_4616 o 44).toInt := by rw [kp_4650 44 rfl]
                          have t_4658 : (I_4646 o 45).toInt = (I_4616 o 45).toInt := by rw [kp_4650 45 rfl]
                          have t_4659 : (I_4646 o 47).toInt = (I_4616 o 47).toInt := by rw [kp_4650 47 rfl]
                          have t_4660 : (I_4646 o 48).toInt = (I_4616 o 48).toInt := by rw [kp_4650 48 rfl]
                          have t_4661 : (I_4646 o 46).toInt = (I_4616 o 46).toInt := by rw [kp_4650 46 rfl]
                          have k_4662 : MTd I_4646 o := k_4636.fr (fr_4649 _ (by first | omega | (dsimp only; omega))) (fr_4649 _ (by first | omega | (dsimp only; omega))) (fr_4649 _ (by first | omega | (dsimp only; omega)))
                          have ms := u_4641 (by omega)
                          have k_4663 : EX 0 0 0 f0 0 I_4646 o := by exact EX.nx k_4635 (fr_4649 _ (by first | omega | (dsimp only; omega))) (fr_4649 _ (by first | omega | (dsimp only; omega))) (fr_4649 _ (by first | omega | (dsimp only; omega))) (fr_4649 _ (by first | omega | (dsimp only; omega))) (fr_4649 _ (by first | omega | (dsimp only; omega))) (kp_4650 3 rfl) (kp_4650 44 rfl) (kp_4650 45 rfl) (kp_4650 47 rfl) (kp_4650 48 rfl) (by omega) (by omega)
                          exact (hp _ _ _ hR_4648 hf_4651 (Or.inl rfl) (by first | omega | (intro h; omega) | exact Or.inl rfl | exact Or.inr rfl) (by first | omega | (intro h; omega) | exact Or.inl rfl | exact Or.inr rfl) (by first | omega | (intro h; omega) | exact Or.inl rfl | exact Or.inr rfl) (by first | omega | (intro h; omega) | exact Or.inl rfl | exact Or.inr rfl) (by first | omega | (intro h; omega) | exact Or.inl rfl | exact Or.inr rfl) (by first | (intro h; exfalso; omega) | exact fun _ => (False.elim (by omega)) | exact fun _ => k_4663) k_4662 u_4644 u_4645)
                    · have d_4664 := iNe c_4600
                      have i_4665 := u_4597 (by omega)
                      have i_4666 := u_4598 (by omega)
                      have g_4667 : (0 : Int) ≤ (I_4576 o 47).toInt ∧ (I_4576 o 47).toInt ≤ 7 := hR_4578.at0 ra 47 (by decide)
                      refine ⟨fun c_4668 => ?_, fun c_4668 => ?_⟩
                      · have d_4669 := iNe c_4668
                        refine y_Model_isGood hok hw ra hR_4578 (fun r_4670 u_4671 u_4672 u_4673 => ⟨r_4670, I_4576, L_2720, rfl, rfl, ?_⟩)
                        have b_4674 : 0 ≤ r_4670.toInt ∧ r_4670.toInt ≤ 1 := u_4671.rg
                        refine ⟨fun c_4675 => ?_, fun c_4675 => ?_⟩
                        · have d_4676 := iNe c_4675
                          have i_4677 := u_4672 (by omega)
                          refine y_Model_pile hok hw ra hz58 (by first | omega | (intro h; omega) | exact Or.inl rfl | exact Or.inr rfl) (by first | omega | (intro h; omega) | exact Or.inl rfl | exact Or.inr rfl) hR_4578 (fun I_4682 L_4683 hR_4684 fr_4685 kp_4686 u_4679 u_4680 u_4681 => ⟨I_4682, L_4683, rfl, rfl, ?_⟩)
                          have hf_4687 : Fm (fun c => c = o ∨ (o + 30 ≤ c ∧ c < o + 34)) I0 I_4682 := hf_4579.call fr_4685 (fun c hc => by first | exact hc | (dsimp only at hc ⊢; omega) | omega)
                          have t_4688 : (I_4682 o 3).toInt = (I_4576 o 3).toInt := by rw [kp_4686 3 rfl]
                          have t_4689 : (I_4682 o 4).toInt = (I_4576 o 4).toInt := by rw [kp_4686 4 rfl]
                          have t_4690 : (I_4682 o 6).toInt = (I_4576 o 6).toInt := by rw [kp_4686 6 rfl]
                          have t_4691 : (I_4682 o 7).toInt = (I_4576 o 7).toInt := by rw [kp_4686 7 rfl]
                          have t_4692 : (I_4682 o 8).toInt = (I_4576 o 8).toInt := by rw [kp_4686 8 rfl]
                          have t_4693 : (I_4682 o 9).toInt = (I_4576 o 9).toInt := by rw [kp_4686 9 rfl]
                          have t_4694 : (I_4682 o 44).toInt = (I_4576 o 44).toInt := by rw [kp_4686 44 rfl]
                          have t_4695 : (I_4682 o 45).toInt = (I_4576 o 45).toInt := by rw [kp_4686 45 rfl]
                          have t_4696 : (I_4682 o 47).toInt = (I_4576 o 47).toInt := by rw [kp_4686 47 rfl]
                          have g_4697 : (0 : Int) ≤ (I_4682 o 48).toInt ∧ (I_4682 o 48).toInt ≤ 80 := hR_4684.at0 ra 48 (by decide)
                          have t_4698 : (I_4682 o 46).toInt = (I_4576 o 46).toInt := by rw [kp_4686 46 rfl]
                          have k_4699 : MTd I_4682 o := k_4592.fr (fr_4685 _ (by first | omega | (dsimp only; omega))) (fr_4685 _ (by first | omega | (dsimp only; omega))) (fr_4685 _ (by first | omega | (dsimp only; omega)))
                          have k_4700 : MPo I_4682 o := k_4593.fr (kp_4686 8 rfl) (kp_4686 9 rfl)
                          have k_4701 : MTk I_4682 o := k_4594.fr (kp_4686 6 rfl) (kp_4686 7 rfl) (kp_4686 8 rfl)
                          have k_4702 : EX 0 1 1 f0 1 I_4682 o := by have z := EX.push k_4591 (v := 7) (s := 0) (dB := 1) (dO := 0) (wt' := 1) (by decide) (by decide) (by decide) (by omega) ⟨by decide, by decide⟩ ⟨fun h => absurd h (by decide), fun h => absurd h (by decide)⟩ (Or.inl rfl) (fr_4685 _ (by first | omega | (dsimp only; omega))) (fr_4685 _ (by first | omega | (dsimp only; omega))) (fr_4685 _ (by first | omega | (dsimp only; omega))) u_4679 u_4680 (kp_4686 3 rfl) (kp_4686 6 rfl) (kp_4686 44 rfl) (kp_4686 45 rfl) (kp_4686 47 rfl) u_4681; exact EX.chg (b' := 1) z rfl rfl rfl rfl rfl rfl rfl rfl rfl rfl (by omega) z.pl
                          have g_4703 : (0 : Int) ≤ (I_4682 o 47).toInt ∧ (I_4682 o 47).toInt ≤ 7 := hR_4684.at0 ra 47 (by decide)
                          have a_4704 : ((I_4682 o 47) + 1).toInt = (I_4682 o 47).toInt + (1 : Int32).toInt := tAdd (by omega) (by omega)
                          refine fun I_4705 e_4706 => ?_
                          have hR_4707 : RI R I_4705 := hR_4684.up0 (k := 47) ra (by decide) (Or.inr hz57) e_4706 (show (0 : Int) ≤ ((I_4682 o 47) + 1).toInt by omega) (show ((I_4682 o 47) + 1).toInt ≤ (7 : Int) by omega)
                          have hf_4708 : Fm (fun c => c = o ∨ (o + 30 ≤ c ∧ c < o + 34)) I0 I_4705 := hf_4687.set (by first | rfl | omega | (dsimp only; omega)) e_4706
                          have t_4709 : (I_4705 o 3).toInt = (I_4682 o 3).toInt := by rw [← e_4706, q_u_k (by decide)]
                          have t_4710 : (I_4705 o 4).toInt = (I_4682 o 4).toInt := by rw [← e_4706, q_u_k (by decide)]
                          have t_4711 : (I_4705 o 6).toInt = (I_4682 o 6).toInt := by rw [← e_4706, q_u_k (by decide)]
                          have t_4712 : (I_4705 o 7).toInt = (I_4682 o 7).toInt := by rw [← e_4706, q_u_k (by decide)]
                          have t_4713 : (I_4705 o 8).toInt = (I_4682 o 8).toInt := by rw [← e_4706, q_u_k (by decide)]
                          have t_4714 : (I_4705 o 9).toInt = (I_4682 o 9).toInt := by rw [← e_4706, q_u_k (by decide)]
                          have t_4715 : (I_4705 o 44).toInt = (I_4682 o 44).toInt := by rw [← e_4706, q_u_k (by decide)]
                          have t_4716 : (I_4705 o 45).toInt = (I_4682 o 45).toInt := by rw [← e_4706, q_u_k (by decide)]
                          have t_4717 : (I_4705 o 47).toInt = ((I_4682 o 47) + 1).toInt := by rw [← e_4706, q_u_at]
                          have t_4718 : (I_4705 o 48).toInt = (I_4682 o 48).toInt := by rw [← e_4706, q_u_k (by decide)]
                          have t_4719 : (I_4705 o 46).toInt = (I_4682 o 46).toInt := by rw [← e_4706, q_u_k (by decide)]
                          have k_4720 : MTd I_4705 o := k_4699.fr (by rw [← e_4706]; exact q_u_ne (by omega)) (by rw [← e_4706]; exact q_u_ne (by omega)) (by rw [← e_4706]; exact q_u_ne (by omega))
                          have k_4721 : MPo I_4705 o := k_4700.fr (by rw [← e_4706, q_u_k (by decide)]) (by rw [← e_4706, q_u_k (by decide)])
                          have k_4722 : MTk I_4705 o := k_4701.fr (by rw [← e_4706, q_u_k (by decide)]) (by rw [← e_4706, q_u_k (by decide)]) (by rw [← e_4706, q_u_k (by decide)])
                          have tk := k_4722.2 (by omega)
                          have k_4724 : EX 0 0 1 f0 1 I_4705 o := by exact EX.put47 k_4702 e_4706 (by omega)
                          refine y_Model_next hok hw ra hz16 hz17 hz18 hz19 (by first | omega | (intro h; omega) | exact Or.inl rfl | exact Or.inr rfl) hR_4707 (fun I_4734 L_4735 hR_4736 fr_4737 kp_4738 u_4726 u_4727 u_4728 u_4729 u_4730 u_4731 u_4732 u_4733 => ⟨I_4734, L_4735, rfl, rfl, ?_⟩)
                          have hf_4739 : Fm (fun c => c = o ∨ (o + 30 ≤ c ∧ c < o + 34)) I0 I_4734 := hf_4708.call fr_4737 (fun c hc => by first | exact hc | (dsimp only at hc ⊢; omega) | omega)
                          have t_4740 : (I_4734 o 3).toInt = (I_4705 o 3).toInt := by rw [kp_4738 3 rfl]
                          have t_4741 : (I_4734 o 4).toInt = (I_4705 o 4).toInt := by rw [kp_4738 4 rfl]
                          have g_4742 : (0 : Int) ≤ (I_4734 o 6).toInt ∧ (I_4734 o 6).toInt ≤ 1600 := hR_4736.at0 ra 6 (by decide)
                          have g_4743 : (0 : Int) ≤ (I_4734 o 7).toInt ∧ (I_4734 o 7).toInt ≤ 1601 := hR_4736.at0 ra 7 (by decide)
                          have g_4744 : (0 : Int) ≤ (I_4734 o 8).toInt ∧ (I_4734 o 8).toInt ≤ 6 := hR_4736.at0 ra 8 (by decide)
                          have t_4745 : (I_4734 o 44).toInt = (I_4705 o 44).toInt := by rw [kp_4738 44 rfl]
                          have t_4746 : (I_4734 o 45).toInt = (I_4705 o 45).toInt := by rw [kp_4738 45 rfl]
                          have t_4747 : (I_4734 o 47).toInt = (I_4705 o 47).toInt := by rw [kp_4738 47 rfl]
                          have t_4748 : (I_4734 o 48).toInt = (I_4705 o 48).toInt := by rw [kp_4738 48 rfl]
                          have t_4749 : (I_4734 o 46).toInt = (I_4705 o 46).toInt := by rw [kp_4738 46 rfl]
                          have k_4750 : MTd I_4734 o := k_4720.fr (fr_4737 _ (by first | omega | (dsimp only; omega))) (fr_4737 _ (by first | omega | (dsimp only; omega))) (fr_4737 _ (by first | omega | (dsimp only; omega)))
                          have ms := u_4729 (by omega)
                          have k_4751 : EX 0 0 0 f0 1 I_4734 o := by exact EX.nx k_4724 (fr_4737 _ (by first | omega | (dsimp only; omega))) (fr_4737 _ (by first | omega | (dsimp only; omega))) (fr_4737 _ (by first | omega | (dsimp only; omega))) (fr_4737 _ (by first | omega | (dsimp only; omega))) (fr_4737 _ (by first | omega | (dsimp only; omega))) (kp_4738 3 rfl) (kp_4738 44 rfl) (kp_4738 45 rfl) (kp_4738 47 rfl) (kp_4738 48 rfl) (by omega) (by omega)
                          exact (hp _ _ _ hR_4736 hf_4739 (Or.inr rfl) (by first | omega | (intro h; omega) | exact Or.inl rfl | exact Or.inr rfl) (by first | omega | (intro h; omega) | exact Or.inl rfl | exact Or.inr rfl) (by first | omega | (intro h; omega) | exact Or.inl rfl | exact Or.inr rfl) (by first | omega | (intro h; omega) | exact Or.inl rfl | exact Or.inr rfl) (by first | omega | (intro h; omega) | exact Or.inl rfl | exact Or.inr rfl) (by first | (intro h; exfalso; omega) | exact fun _ => k_4751 | exact fun _ => (False.elim (by omega))) k_4750 u_4732 u_4733)
                        · have d_4752 := iEq c_4675
                          have i_4753 := u_4673 (by omega)
                          exact (hp _ _ _ hR_4578 hf_4579 (Or.inr rfl) (by first | omega | (intro h; omega) | exact Or.inl rfl | exact Or.inr rfl) (by first | omega | (intro h; omega) | exact Or.inl rfl | exact Or.inr rfl) (by first | omega | (intro h; omega) | exact Or.inl rfl | exact Or.inr rfl) (by first | omega | (intro h; omega) | exact Or.inl rfl | exact Or.inr rfl) (by first | omega | (intro h; omega) | exact Or.inl rfl | exact Or.inr rfl) (by first | (intro h; exfalso; omega) | exact fun _ => k_4591 | exact fun _ => (False.elim (by omega))) k_4592 k_4593 k_4594)
                      · have d_4754 := iEq c_4668
                        refine y_Model_wrong hok hw ra hz14 hz15 hR_4578 (fun I_4758 L_4759 hR_4760 fr_4761 kp_4762 u_4756 u_4757 => ⟨I_4758, L_4759, rfl, rfl, ?_⟩)
                        have hf_4763 : Fm (fun c => c = o ∨ (o + 30 ≤ c ∧ c < o + 34)) I0 I_4758 := hf_4579.call fr_4761 (fun c hc => by first | exact hc | (dsimp only at hc ⊢; omega) | omega)
                        have t_4764 : (I_4758 o 3).toInt = (I_4576 o 3).toInt := by rw [kp_4762 3 rfl]
                        have g_4765 : (0 : Int) ≤ (I_4758 o 4).toInt ∧ (I_4758 o 4).toInt ≤ 5 := hR_4760.at0 ra 4 (by decide)
                        have t_4766 : (I_4758 o 6).toInt = (I_4576 o 6).toInt := by rw [kp_4762 6 rfl]
                        have t_4767 : (I_4758 o 7).toInt = (I_4576 o 7).toInt := by rw [kp_4762 7 rfl]
                        have t_4768 : (I_4758 o 8).toInt = (I_4576 o 8).toInt := by rw [kp_4762 8 rfl]
                        have t_4769 : (I_4758 o 9).toInt = (I_4576 o 9).toInt := by rw [kp_4762 9 rfl]
                        have t_4770 : (I_4758 o 44).toInt = (I_4576 o 44).toInt := by rw [kp_4762 44 rfl]
                        have t_4771 : (I_4758 o 45).toInt = (I_4576 o 45).toInt := by rw [kp_4762 45 rfl]
                        have t_4772 : (I_4758 o 47).toInt = (I_4576 o 47).toInt := by rw [kp_4762 47 rfl]
                        have t_4773 : (I_4758 o 48).toInt = (I_4576 o 48).toInt := by rw [kp_4762 48 rfl]
                        have t_4774 : (I_4758 o 46).toInt = (I_4576 o 46).toInt := by rw [kp_4762 46 rfl]
                        have k_4775 : EX 0 0 0 f0 1 I_4758 o := k_4591.fr (fr_4761 _ (by first | omega | (dsimp only; omega))) (fr_4761 _ (by first | omega | (dsimp only; omega))) (fr_4761 _ (by first | omega | (dsimp only; omega))) (fr_4761 _ (by first | omega | (dsimp only; omega))) (fr_4761 _ (by first | omega | (dsimp only; omega))) (kp_4762 3 rfl) (kp_4762 6 rfl) (kp_4762 44 rfl) (kp_4762 45 rfl) (kp_4762 47 rfl) (kp_4762 48 rfl)
                        have k_4776 : MTd I_4758 o := k_4592.fr (fr_4761 _ (by first | omega | (dsimp only; omega))) (fr_4761 _ (by first | omega | (dsimp only; omega))) (fr_4761 _ (by first | omega | (dsimp only; omega)))
                        have k_4777 : MPo I_4758 o := k_4593.fr (kp_4762 8 rfl) (kp_4762 9 rfl)
                        have k_4778 : MTk I_4758 o := k_4594.fr (kp_4762 6 rfl) (kp_4762 7 rfl) (kp_4762 8 rfl)
                        refine y_Model_isGood hok hw ra hR_4760 (fun r_4779 u_4780 u_4781 u_4782 => ⟨r_4779, I_4758, L_4759, rfl, rfl, ?_⟩)
                        have b_4783 : 0 ≤ r_4779.toInt ∧ r_4779.toInt ≤ 1 := u_4780.rg
                        refine ⟨fun c_4784 => ?_, fun c_4784 => ?_⟩
                        · have d_4785 := iNe c_4784
                          have i_4786 := u_4781 (by omega)
                          refine y_Model_pile hok hw ra hz58 (by first | omega | (intro h; omega) | exact Or.inl rfl | exact Or.inr rfl) (by first | omega | (intro h; omega) | exact Or.inl rfl | exact Or.inr rfl) hR_4760 (fun I_4791 L_4792 hR_4793 fr_4794 kp_4795 u_4788 u_4789 u_4790 => ⟨I_4791, L_4792, rfl, rfl, ?_⟩)
                          have hf_4796 : Fm (fun c => c = o ∨ (o + 30 ≤ c ∧ c < o + 34)) I0 I_4791 := hf_4763.call fr_4794 (fun c hc => by first | exact hc | (dsimp only at hc ⊢; omega) | omega)
                          have t_4797 : (I_4791 o 3).toInt = (I_4758 o 3).toInt := by rw [kp_4795 3 rfl]
                          have t_4798 : (I_4791 o 4).toInt = (I_4758 o 4).toInt := by rw [kp_4795 4 rfl]
                          have t_4799 : (I_4791 o 6).toInt = (I_4758 o 6).toInt := by rw [kp_4795 6 rfl]
                          have t_4800 : (I_4791 o 7).toInt = (I_4758 o 7).toInt := by rw [kp_4795 7 rfl]
                          have t_4801 : (I_4791 o 8).toInt = (I_4758 o 8).toInt := by rw [kp_4795 8 rfl]
                          have t_4802 : (I_4791 o 9).toInt = (I_4758 o 9).toInt := by rw [kp_4795 9 rfl]
                          have t_4803 : (I_4791 o 44).toInt = (I_4758 o 44).toInt := by rw [kp_4795 44 rfl]
                          have t_4804 : (I_4791 o 45).toInt = (I_4758 o 45).toInt := by rw [kp_4795 45 rfl]
                          have t_4805 : (I_4791 o 47).toInt = (I_4758 o 47).toInt := by rw [kp_4795 47 rfl]
                          have g_4806 : (0 : Int) ≤ (I_4791 o 48).toInt ∧ (I_4791 o 48).toInt ≤ 80 := hR_4793.at0 ra 48 (by decide)
                          have t_4807 : (I_4791 o 46).toInt = (I_4758 o 46).toInt := by rw [kp_4795 46 rfl]
                          have k_4808 : MTd I_4791 o := k_4776.fr (fr_4794 _ (by first | omega | (dsimp only; omega))) (fr_4794 _ (by first | omega | (dsimp only; omega))) (fr_4794 _ (by first | omega | (dsimp only; omega)))
                          have k_4809 : MPo I_4791 o := k_4777.fr (kp_4795 8 rfl) (kp_4795 9 rfl)
                          have k_4810 : MTk I_4791 o := k_4778.fr (kp_4795 6 rfl) (kp_4795 7 rfl) (kp_4795 8 rfl)
                          have k_4811 : EX 0 1 1 f0 1 I_4791 o := by have z := EX.push k_4775 (v := 7) (s := 0) (dB := 1) (dO := 0) (wt' := 1) (by decide) (by decide) (by decide) (by omega) ⟨by decide, by decide⟩ ⟨fun h => absurd h (by decide), fun h => absurd h (by decide)⟩ (Or.inl rfl) (fr_4794 _ (by first | omega | (dsimp only; omega))) (fr_4794 _ (by first | omega | (dsimp only; omega))) (fr_4794 _ (by first | omega | (dsimp only; omega))) u_4788 u_4789 (kp_4795 3 rfl) (kp_4795 6 rfl) (kp_4795 44 rfl) (kp_4795 45 rfl) (kp_4795 47 rfl) u_4790; exact EX.chg (b' := 1) z rfl rfl rfl rfl rfl rfl rfl rfl rfl rfl (by omega) z.pl
                          have g_4812 : (0 : Int) ≤ (I_4791 o 47).toInt ∧ (I_4791 o 47).toInt ≤ 7 := hR_4793.at0 ra 47 (by decide)
                          have a_4813 : ((I_4791 o 47) + 1).toInt = (I_4791 o 47).toInt + (1 : Int32).toInt := tAdd (by omega) (by omega)
                          refine fun I_4814 e_4815 => ?_
                          have hR_4816 : RI R I_4814 := hR_4793.up0 (k := 47) ra (by decide) (Or.inr hz57) e_4815 (show (0 : Int) ≤ ((I_4791 o 47) + 1).toInt by omega) (show ((I_4791 o 47) + 1).toInt ≤ (7 : Int) by omega)
                          have hf_4817 : Fm (fun c => c = o ∨ (o + 30 ≤ c ∧ c < o + 34)) I0 I_4814 := hf_4796.set (by first | rfl | omega | (dsimp only; omega)) e_4815
                          have t_4818 : (I_4814 o 3).toInt = (I_4791 o 3).toInt := by rw [← e_4815, q_u_k (by decide)]
                          have t_4819 : (I_4814 o 4).toInt = (I_4791 o 4).toInt := by rw [← e_4815, q_u_k (by decide)]
                          have t_4820 : (I_4814 o 6).toInt = (I_4791 o 6).toInt := by rw [← e_4815, q_u_k (by decide)]
                          have t_4821 : (I_4814 o 7).toInt = (I_4791 o 7).toInt := by rw [← e_4815, q_u_k (by decide)]
                          have t_4822 : (I_4814 o 8).toInt = (I_4791 o 8).toInt := by rw [← e_4815, q_u_k (by decide)]
                          have t_4823 : (I_4814 o 9).toInt = (I_4791 o 9).toInt := by rw [← e_4815, q_u_k (by decide)]
                          have t_4824 : (I_4814 o 44).toInt = (I_4791 o 44).toInt := by rw [← e_4815, q_u_k (by decide)]
                          have t_4825 : (I_4814 o 45).toInt = (I_4791 o 45).toInt := by rw [← e_4815, q_u_k (by decide)]
                          have t_4826 : (I_4814 o 47).toInt = ((I_4791 o 47) + 1).toInt := by rw [← e_4815, q_u_at]
                          have t_4827 : (I_4814 o 48).toInt = (I_4791 o 48).toInt := by rw [← e_4815, q_u_k (by decide)]
                          have t_4828 : (I_4814 o 46).toInt = (I_4791 o 46).toInt := by rw [← e_4815, q_u_k (by decide)]
                          have k_4829 : MTd I_4814 o := k_4808.fr (by rw [← e_4815]; exact q_u_ne (by omega)) (by rw [← e_4815]; exact q_u_ne (by omega)) (by rw [← e_4815]; exact q_u_ne (by omega))
                          have k_4830 : MPo I_4814 o := k_4809.fr (by rw [← e_4815, q_u_k (by decide)]) (by rw [← e_4815, q_u_k (by decide)])
                          have k_4831 : MTk I_4814 o := k_4810.fr (by rw [← e_4815, q_u_k (by decide)]) (by rw [← e_4815, q_u_k (by decide)]) (by rw [← e_4815, q_u_k (by decide)])
                          have tk := k_4831.2 (by omega)
                          have k_4833 : EX 0 0 1 f0 1 I_4814 o := by exact EX.put47 k_4811 e_4815 (by omega)
                          refine y_Model_next hok hw ra hz16 hz17 hz18 hz19 (by first | omega | (intro h; omega) | exact Or.inl rfl | exact Or.inr rfl) hR_4816 (fun I_4843 L_4844 hR_4845 fr_4846 kp_4847 u_4835 u_4836 u_4837 u_4838 u_4839 u_4840 u_4841 u_4842 => ⟨I_4843, L_4844, rfl, rfl, ?_⟩)
                          have hf_4848 : Fm (fun c => c = o ∨ (o + 30 ≤ c ∧ c < o + 34)) I0 I_4843 := hf_4817.call fr_4846 (fun c hc => by first | exact hc | (dsimp only at hc ⊢; omega) | omega)
                          have t_4849 : (I_4843 o 3).toInt = (I_4814 o 3).toInt := by rw [kp_4847 3 rfl]
                          have t_4850 : (I_4843 o 4).toInt = (I_4814 o 4).toInt := by rw [kp_4847 4 rfl]
                          have g_4851 : (0 : Int) ≤ (I_4843 o 6).toInt ∧ (I_4843 o 6).toInt ≤ 1600 := hR_4845.at0 ra 6 (by decide)
                          have g_4852 : (0 : Int) ≤ (I_4843 o 7).toInt ∧ (I_4843 o 7).toInt ≤ 1601 := hR_4845.at0 ra 7 (by decide)
                          have g_4853 : (0 : Int) ≤ (I_4843 o 8).toInt ∧ (I_4843 o 8).toInt ≤ 6 := hR_4845.at0 ra 8 (by decide)
                          have t_4854 : (I_4843 o 44).toInt = (I_4814 o 44).toInt := by rw [kp_4847 44 rfl]
                          have t_4855 : (I_4843 o 45).toInt = (I_4814 o 45).toInt := by rw [kp_4847 45 rfl]
                          have t_4856 : (I_4843 o 47).toInt = (I_4814 o 47).toInt := by rw [kp_4847 47 rfl]
                          have t_4857 : (I_4843 o 48).toInt = (I_4814 o 48).toInt := by rw [kp_4847 48 rfl]
                          have t_4858 : (I_4843 o 46).toInt = (I_4814 o 46).toInt := by rw [kp_4847 46 rfl]
                          have k_4859 : MTd I_4843 o := k_4829.fr (fr_4846 _ (by first | omega | (dsimp only; omega))) (fr_4846 _ (by first | omega | (dsimp only; omega))) (fr_4846 _ (by first | omega | (dsimp only; omega)))
                          have ms := u_4838 (by omega)
                          have k_4860 : EX 0 0 0 f0 1 I_4843 o := by exact EX.nx k_4833 (fr_4846 _ (by first | omega | (dsimp only; omega))) (fr_4846 _ (by first | omega | (dsimp only; omega))) (fr_4846 _ (by first | omega | (dsimp only; omega))) (fr_4846 _ (by first | omega | (dsimp only; omega))) (fr_4846 _ (by first | omega | (dsimp only; omega))) (kp_4847 3 rfl) (kp_4847 44 rfl) (kp_4847 45 rfl) (kp_4847 47 rfl) (kp_4847 48 rfl) (by omega) (by omega)
                          exact (hp _ _ _ hR_4845 hf_4848 (Or.inr rfl) (by first | omega | (intro h; omega) | exact Or.inl rfl | exact Or.inr rfl) (by first | omega | (intro h; omega) | exact Or.inl rfl | exact Or.inr rfl) (by first | omega | (intro h; omega) | exact Or.inl rfl | exact Or.inr rfl) (by first | omega | (intro h; omega) | exact Or.inl rfl | exact Or.inr rfl) (by first | omega | (intro h; omega) | exact Or.inl rfl | exact Or.inr rfl) (by first | (intro h; exfalso; omega) | exact fun _ => k_4860 | exact fun _ => (False.elim (by omega))) k_4859 u_4841 u_4842)
                        · have d_4861 := iEq c_4784
                          have i_4862 := u_4782 (by omega)
                          exact (hp _ _ _ hR_4760 hf_4763 (Or.inr rfl) (by first | omega | (intro h; omega) | exact Or.inl rfl | exact Or.inr rfl) (by first | omega | (intro h; omega) | exact Or.inl rfl | exact Or.inr rfl) (by first | omega | (intro h; omega) | exact Or.inl rfl | exact Or.inr rfl) (by first | omega | (intro h; omega) | exact Or.inl rfl | exact Or.inr rfl) (by first | omega | (intro h; omega) | exact Or.inl rfl | exact Or.inr rfl) (by first | (intro h; exfalso; omega) | exact fun _ => k_4775 | exact fun _ => (False.elim (by omega))) k_4776 k_4777 k_4778)
                  · have d_4863 := iEq c_4571
                    have i_4864 := u_4569 (by omega)
                    exact (hp _ _ _ hR_2721 hf_2724 (Or.inr rfl) (by first | omega | (intro h; omega) | exact Or.inl rfl | exact Or.inr rfl) (by first | omega | (intro h; omega) | exact Or.inl rfl | exact Or.inr rfl) (by first | omega | (intro h; omega) | exact Or.inl rfl | exact Or.inr rfl) (by first | omega | (intro h; omega) | exact Or.inl rfl | exact Or.inr rfl) (by first | omega | (intro h; omega) | exact Or.inl rfl | exact Or.inr rfl) (by first | (intro h; exfalso; omega) | exact fun _ => k_2735 | exact fun _ => (False.elim (by omega))) k_2736 k_2737 k_2738)
                · have d_4865 := iEq c_4564
                  unfold fModel_unit_140
                  refine y_Model_wrong hok hw ra hz14 hz15 hR_2721 (fun I_4869 L_4870 hR_4871 fr_4872 kp_4873 u_4867 u_4868 => ⟨I_4869, L_4870, rfl, rfl, ?_⟩)
                  have hf_4874 : Fm (fun c => c = o ∨ (o + 30 ≤ c ∧ c < o + 34)) I0 I_4869 := hf_2724.call fr_4872 (fun c hc => by first | exact hc | (dsimp only at hc ⊢; omega) | omega)
                  have t_4875 : (I_4869 o 3).toInt = (I_2719 o 3).toInt := by rw [kp_4873 3 rfl]
                  have g_4876 : (0 : Int) ≤ (I_4869 o 4).toInt ∧ (I_4869 o 4).toInt ≤ 5 := hR_4871.at0 ra 4 (by decide)
                  have t_4877 : (I_4869 o 6).toInt = (I_2719 o 6).toInt := by rw [kp_4873 6 rfl]
                  have t_4878 : (I_4869 o 7).toInt = (I_2719 o 7).toInt := by rw [kp_4873 7 rfl]
                  have t_4879 : (I_4869 o 8).toInt = (I_2719 o 8).toInt := by rw [kp_4873 8 rfl]
                  have t_4880 : (I_4869 o 9).toInt = (I_2719 o 9).toInt := by rw [kp_4873 9 rfl]
                  have t_4881 : (I_4869 o 44).toInt = (I_2719 o 44).toInt := by rw [kp_4873 44 rfl]
                  have t_4882 : (I_4869 o 45).toInt = (I_2719 o 45).toInt := by rw [kp_4873 45 rfl]
                  have t_4883 : (I_4869 o 47).toInt = (I_2719 o 47).toInt := by rw [kp_4873 47 rfl]
                  have t_4884 : (I_4869 o 48).toInt = (I_2719 o 48).toInt := by rw [kp_4873 48 rfl]
                  have t_4885 : (I_4869 o 46).toInt = (I_2719 o 46).toInt := by rw [kp_4873 46 rfl]
                  have k_4886 : EX 0 0 0 f0 1 I_4869 o := k_2735.fr (fr_4872 _ (by first | omega | (dsimp only; omega))) (fr_4872 _ (by first | omega | (dsimp only; omega))) (fr_4872 _ (by first | omega | (dsimp only; omega))) (fr_4872 _ (by first | omega | (dsimp only; omega))) (fr_4872 _ (by first | omega | (dsimp only; omega))) (kp_4873 3 rfl) (kp_4873 6 rfl) (kp_4873 44 rfl) (kp_4873 45 rfl) (kp_4873 47 rfl) (kp_4873 48 rfl)
                  have k_4887 : MTd I_4869 o := k_2736.fr (fr_4872 _ (by first | omega | (dsimp only; omega))) (fr_4872 _ (by first | omega | (dsimp only; omega))) (fr_4872 _ (by first | omega | (dsimp only; omega)))
                  have k_4888 : MPo I_4869 o := k_2737.fr (kp_4873 8 rfl) (kp_4873 9 rfl)
                  have k_4889 : MTk I_4869 o := k_2738.fr (kp_4873 6 rfl) (kp_4873 7 rfl) (kp_4873 8 rfl)
                  refine y_Model_isGood hok hw ra hR_4871 (fun r_4890 u_4891 u_4892 u_4893 => ⟨r_4890, I_4869, L_4870, rfl, rfl, ?_⟩)
                  have b_4894 : 0 ≤ r_4890.toInt ∧ r_4890.toInt ≤ 1 := u_4891.rg
                  refine ⟨fun c_4895 => ?_, fun c_4895 => ?_⟩
                  · have d_4896 := iNe c_4895
                    have i_4897 := u_4892 (by omega)
                    have g_4898 : (0 : Int) ≤ (I_4869 o 46).toInt ∧ (I_4869 o 46).toInt ≤ 100 := hR_4871.at0 ra 46 (by decide)
                    have a_4899 : ((I_4869 o 46) + 1).toInt = (I_4869 o 46).toInt + (1 : Int32).toInt := tAdd (by omega) (by omega)
                    refine fun I_4900 e_4901 => ?_
                    have hR_4902 : RI R I_4900 := hR_4871.up0 (k := 46) ra (by decide) (Or.inr hz56) e_4901 (show (0 : Int) ≤ ((I_4869 o 46) + 1).toInt by omega) (show ((I_4869 o 46) + 1).toInt ≤ (100 : Int) by omega)
                    have hf_4903 : Fm (fun c => c = o ∨ (o + 30 ≤ c ∧ c < o + 34)) I0 I_4900 := hf_4874.set (by first | rfl | omega | (dsimp only; omega)) e_4901
                    have t_4904 : (I_4900 o 3).toInt = (I_4869 o 3).toInt := by rw [← e_4901, q_u_k (by decide)]
                    have t_4905 : (I_4900 o 4).toInt = (I_4869 o 4).toInt := by rw [← e_4901, q_u_k (by decide)]
                    have t_4906 : (I_4900 o 6).toInt = (I_4869 o 6).toInt := by rw [← e_4901, q_u_k (by decide)]
                    have t_4907 : (I_4900 o 7).toInt = (I_4869 o 7).toInt := by rw [← e_4901, q_u_k (by decide)]
                    have t_4908 : (I_4900 o 8).toInt = (I_4869 o 8).toInt := by rw [← e_4901, q_u_k (by decide)]
                    have t_4909 : (I_4900 o 9).toInt = (I_4869 o 9).toInt := by rw [← e_4901, q_u_k (by decide)]
                    have t_4910 : (I_4900 o 44).toInt = (I_4869 o 44).toInt := by rw [← e_4901, q_u_k (by decide)]
                    have t_4911 : (I_4900 o 45).toInt = (I_4869 o 45).toInt := by rw [← e_4901, q_u_k (by decide)]
                    have t_4912 : (I_4900 o 47).toInt = (I_4869 o 47).toInt := by rw [← e_4901, q_u_k (by decide)]
                    have t_4913 : (I_4900 o 48).toInt = (I_4869 o 48).toInt := by rw [← e_4901, q_u_k (by decide)]
                    have t_4914 : (I_4900 o 46).toInt = ((I_4869 o 46) + 1).toInt := by rw [← e_4901, q_u_at]
                    have k_4915 : EX 0 0 0 f0 1 I_4900 o := k_4886.fr (by rw [← e_4901]; exact q_u_ne (by omega)) (by rw [← e_4901]; exact q_u_ne (by omega)) (by rw [← e_4901]; exact q_u_ne (by omega)) (by rw [← e_4901]; exact q_u_ne (by omega)) (by rw [← e_4901]; exact q_u_ne (by omega)) (by rw [← e_4901, q_u_k (by decide)]) (by rw [← e_4901, q_u_k (by decide)]) (by rw [← e_4901, q_u_k (by decide)]) (by rw [← e_4901, q_u_k (by decide)]) (by rw [← e_4901, q_u_k (by decide)]) (by rw [← e_4901, q_u_k (by decide)])
                    have k_4916 : MTd I_4900 o := k_4887.fr (by rw [← e_4901]; exact q_u_ne (by omega)) (by rw [← e_4901]; exact q_u_ne (by omega)) (by rw [← e_4901]; exact q_u_ne (by omega))
                    have k_4917 : MPo I_4900 o := k_4888.fr (by rw [← e_4901, q_u_k (by decide)]) (by rw [← e_4901, q_u_k (by decide)])
                    have k_4918 : MTk I_4900 o := k_4889.fr (by rw [← e_4901, q_u_k (by decide)]) (by rw [← e_4901, q_u_k (by decide)]) (by rw [← e_4901, q_u_k (by decide)])
                    refine y_Model_is hok hw ra hR_4902 (fun r_4919 u_4920 u_4921 u_4922 => ⟨r_4919, I_4900, L_4870, rfl, rfl, ?_⟩)
                    have b_4923 : 0 ≤ r_4919.toInt ∧ r_4919.toInt ≤ 1 := u_4920.rg
                    refine ⟨fun c_4924 => ?_, fun c_4924 => ?_⟩
                    · have d_4925 := iEq c_4924
                      have cd := k_4915.cod
                      have tk := k_4918.2 (by omega)
                      refine ⟨fun c_4926 => ?_, fun c_4926 => ?_⟩
                      · have d_4927 := iNe c_4926
                        have i_4928 := u_2716 (by omega)
                        have i_4929 := u_2717 (by omega)
                        exfalso; omega
                      · have d_4930 := iEq c_4926
                        unfold fModel_unit_228
                        have l_4931 : (78 : Int32).toInt = 78 := rfl
                        refine ⟨fun c_4932 => ?_, fun c_4932 => ?_⟩
                        · have d_4933 := iNe c_4932
                          have i_4934 := u_2716 (by omega)
                          have i_4935 := u_2717 (by omega)
                          exfalso; omega
                        · have d_4936 := iEq c_4932
                          refine y_Model_step hok hw ra hz55 (by first | omega | (intro h; omega) | exact Or.inl rfl | exact Or.inr rfl) (by first | omega | (intro h; omega) | exact Or.inl rfl | exact Or.inr rfl) hR_4902 (fun I_4940 L_4941 hR_4942 fr_4943 kp_4944 u_4938 u_4939 => ⟨I_4940, L_4941, rfl, rfl, ?_⟩)
                          have hf_4945 : Fm (fun c => c = o ∨ (o + 30 ≤ c ∧ c < o + 34)) I0 I_4940 := hf_4903.call fr_4943 (fun c hc => by first | exact hc | (dsimp only at hc ⊢; omega) | omega)
                          have t_4946 : (I_4940 o 3).toInt = (I_4900 o 3).toInt := by rw [kp_4944 3 rfl]
                          have t_4947 : (I_4940 o 4).toInt = (I_4900 o 4).toInt := by rw [kp_4944 4 rfl]
                          have t_4948 : (I_4940 o 6).toInt = (I_4900 o 6).toInt := by rw [kp_4944 6 rfl]
                          have t_4949 : (I_4940 o 7).toInt = (I_4900 o 7).toInt := by rw [kp_4944 7 rfl]
                          have t_4950 : (I_4940 o 8).toInt = (I_4900 o 8).toInt := by rw [kp_4944 8 rfl]
                          have t_4951 : (I_4940 o 9).toInt = (I_4900 o 9).toInt := by rw [kp_4944 9 rfl]
                          have t_4952 : (I_4940 o 44).toInt = (I_4900 o 44).toInt := by rw [kp_4944 44 rfl]
                          have g_4953 : (0 : Int) ≤ (I_4940 o 45).toInt ∧ (I_4940 o 45).toInt ≤ 700 := hR_4942.at0 ra 45 (by decide)
                          have t_4954 : (I_4940 o 47).toInt = (I_4900 o 47).toInt := by rw [kp_4944 47 rfl]
                          have t_4955 : (I_4940 o 48).toInt = (I_4900 o 48).toInt := by rw [kp_4944 48 rfl]
                          have t_4956 : (I_4940 o 46).toInt = (I_4900 o 46).toInt := by rw [kp_4944 46 rfl]
                          have k_4957 : MPo I_4940 o := k_4917.fr (kp_4944 8 rfl) (kp_4944 9 rfl)
                          have k_4958 : MTk I_4940 o := k_4918.fr (kp_4944 6 rfl) (kp_4944 7 rfl) (kp_4944 8 rfl)
                          have tk := k_4958.2 (by omega)
                          have k_4959 : EX 0 0 1 f0 0 I_4940 o := by exact EX.step1 k_4915 (by first | exact u_2716 (by omega) | (unfold isT; decide)) (by omega) (fr_4943 _ (by first | omega | (dsimp only; omega))) (fr_4943 _ (by first | omega | (dsimp only; omega))) u_4938 (fr_4943 _ (by first | omega | (dsimp only; omega))) (fr_4943 _ (by first | omega | (dsimp only; omega))) (kp_4944 3 rfl) (kp_4944 6 rfl) (kp_4944 44 rfl) u_4939 (kp_4944 47 rfl) (kp_4944 48 rfl)
                          have k_4960 : MTd I_4940 o := by exact MTd.step k_4916 (fr_4943 _ (by first | omega | (dsimp only; omega))) (fr_4943 _ (by first | omega | (dsimp only; omega))) u_4938 (by omega)
                          refine y_Model_next hok hw ra hz16 hz17 hz18 hz19 (by first | omega | (intro h; omega) | exact Or.inl rfl | exact Or.inr rfl) hR_4942 (fun I_4970 L_4971 hR_4972 fr_4973 kp_4974 u_4962 u_4963 u_4964 u_4965 u_4966 u_4967 u_4968 u_4969 => ⟨I_4970, L_4971, rfl, rfl, ?_⟩)
                          have hf_4975 : Fm (fun c => c = o ∨ (o + 30 ≤ c ∧ c < o + 34)) I0 I_4970 := hf_4945.call fr_4973 (fun c hc => by first | exact hc | (dsimp only at hc ⊢; omega) | omega)
                          have t_4976 : (I_4970 o 3).toInt = (I_4940 o 3).toInt := by rw [kp_4974 3 rfl]
                          have t_4977 : (I_4970 o 4).toInt = (I_4940 o 4).toInt := by rw [kp_4974 4 rfl]
                          have g_4978 : (0 : Int) ≤ (I_4970 o 6).toInt ∧ (I_4970 o 6).toInt ≤ 1600 := hR_4972.at0 ra 6 (by decide)
                          have g_4979 : (0 : Int) ≤ (I_4970 o 7).toInt ∧ (I_4970 o 7).toInt ≤ 1601 := hR_4972.at0 ra 7 (by decide)
                          have g_4980 : (0 : Int) ≤ (I_4970 o 8).toInt ∧ (I_4970 o 8).toInt ≤ 6 := hR_4972.at0 ra 8 (by decide)
                          have t_4981 : (I_4970 o 44).toInt = (I_4940 o 44).toInt := by rw [kp_4974 44 rfl]
                          have t_4982 : (I_4970 o 45).toInt = (I_4940 o 45).toInt := by rw [kp_4974 45 rfl]
                          have t_4983 : (I_4970 o 47).toInt = (I_4940 o 47).toInt := by rw [kp_4974 47 rfl]
                          have t_4984 : (I_4970 o 48).toInt = (I_4940 o 48).toInt := by rw [kp_4974 48 rfl]
                          have t_4985 : (I_4970 o 46).toInt = (I_4940 o 46).toInt := by rw [kp_4974 46 rfl]
                          have k_4986 : MTd I_4970 o := k_4960.fr (fr_4973 _ (by first | omega | (dsimp only; omega))) (fr_4973 _ (by first | omega | (dsimp only; omega))) (fr_4973 _ (by first | omega | (dsimp only; omega)))
                          have ms := u_4965 (by omega)
                          have k_4987 : EX 0 0 0 f0 0 I_4970 o := by exact EX.nx k_4959 (fr_4973 _ (by first | omega | (dsimp only; omega))) (fr_4973 _ (by first | omega | (dsimp only; omega))) (fr_4973 _ (by first | omega | (dsimp only; omega))) (fr_4973 _ (by first | omega | (dsimp only; omega))) (fr_4973 _ (by first | omega | (dsimp only; omega))) (kp_4974 3 rfl) (kp_4974 44 rfl) (kp_4974 45 rfl) (kp_4974 47 rfl) (kp_4974 48 rfl) (by omega) (by omega)
                          exact (hp _ _ _ hR_4972 hf_4975 (Or.inl rfl) (by first | omega | (intro h; omega) | exact Or.inl rfl | exact Or.inr rfl) (by first | omega | (intro h; omega) | exact Or.inl rfl | exact Or.inr rfl) (by first | omega | (intro h; omega) | exact Or.inl rfl | exact Or.inr rfl) (by first | omega | (intro h; omega) | exact Or.inl rfl | exact Or.inr rfl) (by first | omega | (intro h; omega) | exact Or.inl rfl | exact Or.inr rfl) (by first | (intro h; exfalso; omega) | exact fun _ => (False.elim (by omega)) | exact fun _ => k_4987) k_4986 u_4968 u_4969)
                    · have d_4988 := iNe c_4924
                      have i_4989 := u_4921 (by omega)
                      have i_4990 := u_4922 (by omega)
                      have g_4991 : (0 : Int) ≤ (I_4900 o 47).toInt ∧ (I_4900 o 47).toInt ≤ 7 := hR_4902.at0 ra 47 (by decide)
                      refine ⟨fun c_4992 => ?_, fun c_4992 => ?_⟩
                      · have d_4993 := iNe c_4992
                        refine y_Model_isGood hok hw ra hR_4902 (fun r_4994 u_4995 u_4996 u_4997 => ⟨r_4994, I_4900, L_4870, rfl, rfl, ?_⟩)
                        have b_4998 : 0 ≤ r_4994.toInt ∧ r_4994.toInt ≤ 1 := u_4995.rg
                        refine ⟨fun c_4999 => ?_, fun c_4999 => ?_⟩
                        · have d_5000 := iNe c_4999
                          have i_5001 := u_4996 (by omega)
                          refine y_Model_pile hok hw ra hz58 (by first | omega | (intro h; omega) | exact Or.inl rfl | exact Or.inr rfl) (by first | omega | (intro h; omega) | exact Or.inl rfl | exact Or.inr rfl) hR_4902 (fun I_5006 L_5007 hR_5008 fr_5009 kp_5010 u_5003 u_5004 u_5005 => ⟨I_5006, L_5007, rfl, rfl, ?_⟩)
                          have hf_5011 : Fm (fun c => c = o ∨ (o + 30 ≤ c ∧ c < o + 34)) I0 I_5006 := hf_4903.call fr_5009 (fun c hc => by first | exact hc | (dsimp only at hc ⊢; omega) | omega)
                          have t_5012 : (I_5006 o 3).toInt = (I_4900 o 3).toInt := by rw [kp_5010 3 rfl]
                          have t_5013 : (I_5006 o 4).toInt = (I_4900 o 4).toInt := by rw [kp_5010 4 rfl]
                          have t_5014 : (I_5006 o 6).toInt = (I_4900 o 6).toInt := by rw [kp_5010 6 rfl]
                          have t_5015 : (I_5006 o 7).toInt = (I_4900 o 7).toInt := by rw [kp_5010 7 rfl]
                          have t_5016 : (I_5006 o 8).toInt = (I_4900 o 8).toInt := by rw [kp_5010 8 rfl]
                          have t_5017 : (I_5006 o 9).toInt = (I_4900 o 9).toInt := by rw [kp_5010 9 rfl]
                          have t_5018 : (I_5006 o 44).toInt = (I_4900 o 44).toInt := by rw [kp_5010 44 rfl]
                          have t_5019 : (I_5006 o 45).toInt = (I_4900 o 45).toInt := by rw [kp_5010 45 rfl]
                          have t_5020 : (I_5006 o 47).toInt = (I_4900 o 47).toInt := by rw [kp_5010 47 rfl]
                          have g_5021 : (0 : Int) ≤ (I_5006 o 48).toInt ∧ (I_5006 o 48).toInt ≤ 80 := hR_5008.at0 ra 48 (by decide)
                          have t_5022 : (I_5006 o 46).toInt = (I_4900 o 46).toInt := by rw [kp_5010 46 rfl]
                          have k_5023 : MTd I_5006 o := k_4916.fr (fr_5009 _ (by first | omega | (dsimp only; omega))) (fr_5009 _ (by first | omega | (dsimp only; omega))) (fr_5009 _ (by first | omega | (dsimp only; omega)))
                          have k_5024 : MPo I_5006 o := k_4917.fr (kp_5010 8 rfl) (kp_5010 9 rfl)
                          have k_5025 : MTk I_5006 o := k_4918.fr (kp_5010 6 rfl) (kp_5010 7 rfl) (kp_5010 8 rfl)
                          have k_5026 : EX 0 1 1 f0 1 I_5006 o := by have z := EX.push k_4915 (v := 7) (s := 0) (dB := 1) (dO := 0) (wt' := 1) (by decide) (by decide) (by decide) (by omega) ⟨by decide, by decide⟩ ⟨fun h => absurd h (by decide), fun h => absurd h (by decide)⟩ (Or.inl rfl) (fr_5009 _ (by first | omega | (dsimp only; omega))) (fr_5009 _ (by first | omega | (dsimp only; omega))) (fr_5009 _ (by first | omega | (dsimp only; omega))) u_5003 u_5004 (kp_5010 3 rfl) (kp_5010 6 rfl) (kp_5010 44 rfl) (kp_5010 45 rfl) (kp_5010 47 rfl) u_5005; exact EX.chg (b' := 1) z rfl rfl rfl rfl rfl rfl rfl rfl rfl rfl (by omega) z.pl
                          have g_5027 : (0 : Int) ≤ (I_5006 o 47).toInt ∧ (I_5006 o 47).toInt ≤ 7 := hR_5008.at0 ra 47 (by decide)
                          have a_5028 : ((I_5006 o 47) + 1).toInt = (I_5006 o 47).toInt + (1 : Int32).toInt := tAdd (by omega) (by omega)
                          refine fun I_5029 e_5030 => ?_
                          have hR_5031 : RI R I_5029 := hR_5008.up0 (k := 47) ra (by decide) (Or.inr hz57) e_5030 (show (0 : Int) ≤ ((I_5006 o 47) + 1).toInt by omega) (show ((I_5006 o 47) + 1).toInt ≤ (7 : Int) by omega)
                          have hf_5032 : Fm (fun c => c = o ∨ (o + 30 ≤ c ∧ c < o + 34)) I0 I_5029 := hf_5011.set (by first | rfl | omega | (dsimp only; omega)) e_5030
                          have t_5033 : (I_5029 o 3).toInt = (I_5006 o 3).toInt := by rw [← e_5030, q_u_k (by decide)]
                          have t_5034 : (I_5029 o 4).toInt = (I_5006 o 4).toInt := by rw [← e_5030, q_u_k (by decide)]
                          have t_5035 : (I_5029 o 6).toInt = (I_5006 o 6).toInt := by rw [← e_5030, q_u_k (by decide)]
                          have t_5036 : (I_5029 o 7).toInt = (I_5006 o 7).toInt := by rw [← e_5030, q_u_k (by decide)]
                          have t_5037 : (I_5029 o 8).toInt = (I_5006 o 8).toInt := by rw [← e_5030, q_u_k (by decide)]
                          have t_5038 : (I_5029 o 9).toInt = (I_5006 o 9).toInt := by rw [← e_5030, q_u_k (by decide)]
                          have t_5039 : (I_5029 o 44).toInt = (I_5006 o 44).toInt := by rw [← e_5030, q_u_k (by decide)]
                          have t_5040 : (I_5029 o 45).toInt = (I_5006 o 45).toInt := by rw [← e_5030, q_u_k (by decide)]
                          have t_5041 : (I_5029 o 47).toInt = ((I_5006 o 47) + 1).toInt := by rw [← e_5030, q_u_at]
                          have t_5042 : (I_5029 o 48).toInt = (I_5006 o 48).toInt := by rw [← e_5030, q_u_k (by decide)]
                          have t_5043 : (I_5029 o 46).toInt = (I_5006 o 46).toInt := by rw [← e_5030, q_u_k (by decide)]
                          have k_5044 : MTd I_5029 o := k_5023.fr (by rw [← e_5030]; exact q_u_ne (by omega)) (by rw [← e_5030]; exact q_u_ne (by omega)) (by rw [← e_5030]; exact q_u_ne (by omega))
                          have k_5045 : MPo I_5029 o := k_5024.fr (by rw [← e_5030, q_u_k (by decide)]) (by rw [← e_5030, q_u_k (by decide)])
                          have k_5046 : MTk I_5029 o := k_5025.fr (by rw [← e_5030, q_u_k (by decide)]) (by rw [← e_5030, q_u_k (by decide)]) (by rw [← e_5030, q_u_k (by decide)])
                          have tk := k_5046.2 (by omega)
                          have k_5048 : EX 0 0 1 f0 1 I_5029 o := by exact EX.put47 k_5026 e_5030 (by omega)
                          refine y_Model_next hok hw ra hz16 hz17 hz18 hz19 (by first | omega | (intro h; omega) | exact Or.inl rfl | exact Or.inr rfl) hR_5031 (fun I_5058 L_5059 hR_5060 fr_5061 kp_5062 u_5050 u_5051 u_5052 u_5053 u_5054 u_5055 u_5056 u_5057 => ⟨I_5058, L_5059, rfl, rfl, ?_⟩)
                          have hf_5063 : Fm (fun c => c = o ∨ (o + 30 ≤ c ∧ c < o + 34)) I0 I_5058 := hf_5032.call fr_5061 (fun c hc => by first | exact hc | (dsimp only at hc ⊢; omega) | omega)
                          have t_5064 : (I_5058 o 3).toInt = (I_5029 o 3).toInt := by rw [kp_5062 3 rfl]
                          have t_5065 : (I_5058 o 4).toInt = (I_5029 o 4).toInt := by rw [kp_5062 4 rfl]
                          have g_5066 : (0 : Int) ≤ (I_5058 o 6).toInt ∧ (I_5058 o 6).toInt ≤ 1600 := hR_5060.at0 ra 6 (by decide)
                          have g_5067 : (0 : Int) ≤ (I_5058 o 7).toInt ∧ (I_5058 o 7).toInt ≤ 1601 := hR_5060.at0 ra 7 (by decide)
                          have g_5068 : (0 : Int) ≤ (I_5058 o 8).toInt ∧ (I_5058 o 8).toInt ≤ 6 := hR_5060.at0 ra 8 (by decide)
                          have t_5069 : (I_5058 o 44).toInt = (I_5029 o 44).toInt := by rw [kp_5062 44 rfl]
                          have t_5070 : (I_5058 o 45).toInt = (I_5029 o 45).toInt := by rw [kp_5062 45 rfl]
                          have t_5071 : (I_5058 o 47).toInt = (I_5029 o 47).toInt := by rw [kp_5062 47 rfl]
                          have t_5072 : (I_5058 o 48).toInt = (I_5029 o 48).toInt := by rw [kp_5062 48 rfl]
                          have t_5073 : (I_5058 o 46).toInt = (I_5029 o 46).toInt := by rw [kp_5062 46 rfl]
                          have k_5074 : MTd I_5058 o := k_5044.fr (fr_5061 _ (by first | omega | (dsimp only; omega))) (fr_5061 _ (by first | omega | (dsimp only; omega))) (fr_5061 _ (by first | omega | (dsimp only; omega)))
                          have ms := u_5053 (by omega)
                          have k_5075 : EX 0 0 0 f0 1 I_5058 o := by exact EX.nx k_5048 (fr_5061 _ (by first | omega | (dsimp only; omega))) (fr_5061 _ (by first | omega | (dsimp only; omega))) (fr_5061 _ (by first | omega | (dsimp only; omega))) (fr_5061 _ (by first | omega | (dsimp only; omega))) (fr_5061 _ (by first | omega | (dsimp only; omega))) (kp_5062 3 rfl) (kp_5062 44 rfl) (kp_5062 45 rfl) (kp_5062 47 rfl) (kp_5062 48 rfl) (by omega) (by omega)
                          exact (hp _ _ _ hR_5060 hf_5063 (Or.inr rfl) (by first | omega | (intro h; omega) | exact Or.inl rfl | exact Or.inr rfl) (by first | omega | (intro h; omega) | exact Or.inl rfl | exact Or.inr rfl) (by first | omega | (intro h; omega) | exact Or.inl rfl | exact Or.inr rfl) (by first | omega | (intro h; omega) | exact Or.inl rfl | exact Or.inr rfl) (by first | omega | (intro h; omega) | exact Or.inl rfl | exact Or.inr rfl) (by first | (intro h; exfalso; omega) | exact fun _ => k_5075 | exact fun _ => (False.elim (by omega))) k_5074 u_5056 u_5057)
                        · have d_5076 := iEq c_4999
                          have i_5077 := u_4997 (by omega)
                          exact (hp _ _ _ hR_4902 hf_4903 (Or.inr rfl) (by first | omega | (intro h; omega) | exact Or.inl rfl | exact Or.inr rfl) (by first | omega | (intro h; omega) | exact Or.inl rfl | exact Or.inr rfl) (by first | omega | (intro h; omega) | exact Or.inl rfl | exact Or.inr rfl) (by first | omega | (intro h; omega) | exact Or.inl rfl | exact Or.inr rfl) (by first | omega | (intro h; omega) | exact Or.inl rfl | exact Or.inr rfl) (by first | (intro h; exfalso; omega) | exact fun _ => k_4915 | exact fun _ => (False.elim (by omega))) k_4916 k_4917 k_4918)
                      · have d_5078 := iEq c_4992
                        refine y_Model_wrong hok hw ra hz14 hz15 hR_4902 (fun I_5082 L_5083 hR_5084 fr_5085 kp_5086 u_5080 u_5081 => ⟨I_5082, L_5083, rfl, rfl, ?_⟩)
                        have hf_5087 : Fm (fun c => c = o ∨ (o + 30 ≤ c ∧ c < o + 34)) I0 I_5082 := hf_4903.call fr_5085 (fun c hc => by first | exact hc | (dsimp only at hc ⊢; omega) | omega)
                        have t_5088 : (I_5082 o 3).toInt = (I_4900 o 3).toInt := by rw [kp_5086 3 rfl]
                        have g_5089 : (0 : Int) ≤ (I_5082 o 4).toInt ∧ (I_5082 o 4).toInt ≤ 5 := hR_5084.at0 ra 4 (by decide)
                        have t_5090 : (I_5082 o 6).toInt = (I_4900 o 6).toInt := by rw [kp_5086 6 rfl]
                        have t_5091 : (I_5082 o 7).toInt = (I_4900 o 7).toInt := by rw [kp_5086 7 rfl]
                        have t_5092 : (I_5082 o 8).toInt = (I_4900 o 8).toInt := by rw [kp_5086 8 rfl]
                        have t_5093 : (I_5082 o 9).toInt = (I_4900 o 9).toInt := by rw [kp_5086 9 rfl]
                        have t_5094 : (I_5082 o 44).toInt = (I_4900 o 44).toInt := by rw [kp_5086 44 rfl]
                        have t_5095 : (I_5082 o 45).toInt = (I_4900 o 45).toInt := by rw [kp_5086 45 rfl]
                        have t_5096 : (I_5082 o 47).toInt = (I_4900 o 47).toInt := by rw [kp_5086 47 rfl]
                        have t_5097 : (I_5082 o 48).toInt = (I_4900 o 48).toInt := by rw [kp_5086 48 rfl]
                        have t_5098 : (I_5082 o 46).toInt = (I_4900 o 46).toInt := by rw [kp_5086 46 rfl]
                        have k_5099 : EX 0 0 0 f0 1 I_5082 o := k_4915.fr (fr_5085 _ (by first | omega | (dsimp only; omega))) (fr_5085 _ (by first | omega | (dsimp only; omega))) (fr_5085 _ (by first | omega | (dsimp only; omega))) (fr_5085 _ (by first | omega | (dsimp only; omega))) (fr_5085 _ (by first | omega | (dsimp only; omega))) (kp_5086 3 rfl) (kp_5086 6 rfl) (kp_5086 44 rfl) (kp_5086 45 rfl) (kp_5086 47 rfl) (kp_5086 48 rfl)
                        have k_5100 : MTd I_5082 o := k_4916.fr (fr_5085 _ (by first | omega | (dsimp only; omega))) (fr_5085 _ (by first | omega | (dsimp only; omega))) (fr_5085 _ (by first | omega | (dsimp only; omega)))
                        have k_5101 : MPo I_5082 o := k_4917.fr (kp_5086 8 rfl) (kp_5086 9 rfl)
                        have k_5102 : MTk I_5082 o := k_4918.fr (kp_5086 6 rfl) (kp_5086 7 rfl) (kp_5086 8 rfl)
                        refine y_Model_isGood hok hw ra hR_5084 (fun r_5103 u_5104 u_5105 u_5106 => ⟨r_5103, I_5082, L_5083, rfl, rfl, ?_⟩)
                        have b_5107 : 0 ≤ r_5103.toInt ∧ r_5103.toInt ≤ 1 := u_5104.rg
                        refine ⟨fun c_5108 => ?_, fun c_5108 => ?_⟩
                        · have d_5109 := iNe c_5108
                          have i_5110 := u_5105 (by omega)
                          refine y_Model_pile hok hw ra hz58 (by first | omega | (intro h; omega) | exact Or.inl rfl | exact Or.inr rfl) (by first | omega | (intro h; omega) | exact Or.inl rfl | exact Or.inr rfl) hR_5084 (fun I_5115 L_5116 hR_5117 fr_5118 kp_5119 u_5112 u_5113 u_5114 => ⟨I_5115, L_5116, rfl, rfl, ?_⟩)
                          have hf_5120 : Fm (fun c => c = o ∨ (o + 30 ≤ c ∧ c < o + 34)) I0 I_5115 := hf_5087.call fr_5118 (fun c hc => by first | exact hc | (dsimp only at hc ⊢; omega) | omega)
                          have t_5121 : (I_5115 o 3).toInt = (I_5082 o 3).toInt := by rw [kp_5119 3 rfl]
                          have t_5122 : (I_5115 o 4).toInt = (I_5082 o 4).toInt := by rw [kp_5119 4 rfl]
                          have t_5123 : (I_5115 o 6).toInt = (I_5082 o 6).toInt := by rw [kp_5119 6 rfl]
                          have t_5124 : (I_5115 o 7).toInt = (I_5082 o 7).toInt := by rw [kp_5119 7 rfl]
                          have t_5125 : (I_5115 o 8).toInt = (I_5082 o 8).toInt := by rw [kp_5119 8 rfl]
                          have t_5126 : (I_5115 o 9).toInt = (I_5082 o 9).toInt := by rw [kp_5119 9 rfl]
                          have t_5127 : (I_5115 o 44).toInt = (I_5082 o 44).toInt := by rw [kp_5119 44 rfl]
                          have t_5128 : (I_5115 o 45).toInt = (I_5082 o 45).toInt := by rw [kp_5119 45 rfl]
                          have t_5129 : (I_5115 o 47).toInt = (I_5082 o 47).toInt := by rw [kp_5119 47 rfl]
                          have g_5130 : (0 : Int) ≤ (I_5115 o 48).toInt ∧ (I_5115 o 48).toInt ≤ 80 := hR_5117.at0 ra 48 (by decide)
                          have t_5131 : (I_5115 o 46).toInt = (I_5082 o 46).toInt := by rw [kp_5119 46 rfl]
                          have k_5132 : MTd I_5115 o := k_5100.fr (fr_5118 _ (by first | omega | (dsimp only; omega))) (fr_5118 _ (by first | omega | (dsimp only; omega))) (fr_5118 _ (by first | omega | (dsimp only; omega)))
                          have k_5133 : MPo I_5115 o := k_5101.fr (kp_5119 8 rfl) (kp_5119 9 rfl)
                          have k_5134 : MTk I_5115 o := k_5102.fr (kp_5119 6 rfl) (kp_5119 7 rfl) (kp_5119 8 rfl)
                          have k_5135 : EX 0 1 1 f0 1 I_5115 o := by have z := EX.push k_5099 (v := 7) (s := 0) (dB := 1) (dO := 0) (wt' := 1) (by decide) (by decide) (by decide) (by omega) ⟨by decide, by decide⟩ ⟨fun h => absurd h (by decide), fun h => absurd h (by decide)⟩ (Or.inl rfl) (fr_5118 _ (by first | omega | (dsimp only; omega))) (fr_5118 _ (by first | omega | (dsimp only; omega))) (fr_5118 _ (by first | omega | (dsimp only; omega))) u_5112 u_5113 (kp_5119 3 rfl) (kp_5119 6 rfl) (kp_5119 44 rfl) (kp_5119 45 rfl) (kp_5119 47 rfl) u_5114; exact EX.chg (b' := 1) z rfl rfl rfl rfl rfl rfl rfl rfl rfl rfl (by omega) z.pl
                          have g_5136 : (0 : Int) ≤ (I_5115 o 47).toInt ∧ (I_5115 o 47).toInt ≤ 7 := hR_5117.at0 ra 47 (by decide)
                          have a_5137 : ((I_5115 o 47) + 1).toInt = (I_5115 o 47).toInt + (1 : Int32).toInt := tAdd (by omega) (by omega)
                          refine fun I_5138 e_5139 => ?_
                          have hR_5140 : RI R I_5138 := hR_5117.up0 (k := 47) ra (by decide) (Or.inr hz57) e_5139 (show (0 : Int) ≤ ((I_5115 o 47) + 1).toInt by omega) (show ((I_5115 o 47) + 1).toInt ≤ (7 : Int) by omega)
                          have hf_5141 : Fm (fun c => c = o ∨ (o + 30 ≤ c ∧ c < o + 34)) I0 I_5138 := hf_5120.set (by first | rfl | omega | (dsimp only; omega)) e_5139
                          have t_5142 : (I_5138 o 3).toInt = (I_5115 o 3).toInt := by rw [← e_5139, q_u_k (by decide)]
                          have t_5143 : (I_5138 o 4).toInt = (I_5115 o 4).toInt := by rw [← e_5139, q_u_k (by decide)]
                          have t_5144 : (I_5138 o 6).toInt = (I_5115 o 6).toInt := by rw [← e_5139, q_u_k (by decide)]
                          have t_5145 : (I_5138 o 7).toInt = (I_5115 o 7).toInt := by rw [← e_5139, q_u_k (by decide)]
                          have t_5146 : (I_5138 o 8).toInt = (I_5115 o 8).toInt := by rw [← e_5139, q_u_k (by decide)]
                          have t_5147 : (I_5138 o 9).toInt = (I_5115 o 9).toInt := by rw [← e_5139, q_u_k (by decide)]
                          have t_5148 : (I_5138 o 44).toInt = (I_5115 o 44).toInt := by rw [← e_5139, q_u_k (by decide)]
                          have t_5149 : (I_5138 o 45).toInt = (I_5115 o 45).toInt := by rw [← e_5139, q_u_k (by decide)]
                          have t_5150 : (I_5138 o 47).toInt = ((I_5115 o 47) + 1).toInt := by rw [← e_5139, q_u_at]
                          have t_5151 : (I_5138 o 48).toInt = (I_5115 o 48).toInt := by rw [← e_5139, q_u_k (by decide)]
                          have t_5152 : (I_5138 o 46).toInt = (I_5115 o 46).toInt := by rw [← e_5139, q_u_k (by decide)]
                          have k_5153 : MTd I_5138 o := k_5132.fr (by rw [← e_5139]; exact q_u_ne (by omega)) (by rw [← e_5139]; exact q_u_ne (by omega)) (by rw [← e_5139]; exact q_u_ne (by omega))
                          have k_5154 : MPo I_5138 o := k_5133.fr (by rw [← e_5139, q_u_k (by decide)]) (by rw [← e_5139, q_u_k (by decide)])
                          have k_5155 : MTk I_5138 o := k_5134.fr (by rw [← e_5139, q_u_k (by decide)]) (by rw [← e_5139, q_u_k (by decide)]) (by rw [← e_5139, q_u_k (by decide)])
                          have tk := k_5155.2 (by omega)
                          have k_5157 : EX 0 0 1 f0 1 I_5138 o := by exact EX.put47 k_5135 e_5139 (by omega)
                          refine y_Model_next hok hw ra hz16 hz17 hz18 hz19 (by first | omega | (intro h; omega) | exact Or.inl rfl | exact Or.inr rfl) hR_5140 (fun I_5167 L_5168 hR_5169 fr_5170 kp_5171 u_5159 u_5160 u_5161 u_5162 u_5163 u_5164 u_5165 u_5166 => ⟨I_5167, L_5168, rfl, rfl, ?_⟩)
                          have hf_5172 : Fm (fun c => c = o ∨ (o + 30 ≤ c ∧ c < o + 34)) I0 I_5167 := hf_5141.call fr_5170 (fun c hc => by first | exact hc | (dsimp only at hc ⊢; omega) | omega)
                          have t_5173 : (I_5167 o 3).toInt = (I_5138 o 3).toInt := by rw [kp_5171 3 rfl]
                          have t_5174 : (I_5167 o 4).toInt = (I_5138 o 4).toInt := by rw [kp_5171 4 rfl]
                          have g_5175 : (0 : Int) ≤ (I_5167 o 6).toInt ∧ (I_5167 o 6).toInt ≤ 1600 := hR_5169.at0 ra 6 (by decide)
                          have g_5176 : (0 : Int) ≤ (I_5167 o 7).toInt ∧ (I_5167 o 7).toInt ≤ 1601 := hR_5169.at0 ra 7 (by decide)
                          have g_5177 : (0 : Int) ≤ (I_5167 o 8).toInt ∧ (I_5167 o 8).toInt ≤ 6 := hR_5169.at0 ra 8 (by decide)
                          have t_5178 : (I_5167 o 44).toInt = (I_5138 o 44).toInt := by rw [kp_5171 44 rfl]
                          have t_5179 : (I_5167 o 45).toInt = (I_5138 o 45).toInt := by rw [kp_5171 45 rfl]
                          have t_5180 : (I_5167 o 47).toInt = (I_5138 o 47).toInt := by rw [kp_5171 47 rfl]
                          have t_5181 : (I_5167 o 48).toInt = (I_5138 o 48).toInt := by rw [kp_5171 48 rfl]
                          have t_5182 : (I_5167 o 46).toInt = (I_5138 o 46).toInt := by rw [kp_5171 46 rfl]
                          have k_5183 : MTd I_5167 o := k_5153.fr (fr_5170 _ (by first | omega | (dsimp only; omega))) (fr_5170 _ (by first | omega | (dsimp only; omega))) (fr_5170 _ (by first | omega | (dsimp only; omega)))
                          have ms := u_5162 (by omega)
                          have k_5184 : EX 0 0 0 f0 1 I_5167 o := by exact EX.nx k_5157 (fr_5170 _ (by first | omega | (dsimp only; omega))) (fr_5170 _ (by first | omega | (dsimp only; omega))) (fr_5170 _ (by first | omega | (dsimp only; omega))) (fr_5170 _ (by first | omega | (dsimp only; omega))) (fr_5170 _ (by first | omega | (dsimp only; omega))) (kp_5171 3 rfl) (kp_5171 44 rfl) (kp_5171 45 rfl) (kp_5171 47 rfl) (kp_5171 48 rfl) (by omega) (by omega)
                          exact (hp _ _ _ hR_5169 hf_5172 (Or.inr rfl) (by first | omega | (intro h; omega) | exact Or.inl rfl | exact Or.inr rfl) (by first | omega | (intro h; omega) | exact Or.inl rfl | exact Or.inr rfl) (by first | omega | (intro h; omega) | exact Or.inl rfl | exact Or.inr rfl) (by first | omega | (intro h; omega) | exact Or.inl rfl | exact Or.inr rfl) (by first | omega | (intro h; omega) | exact Or.inl rfl | exact Or.inr rfl) (by first | (intro h; exfalso; omega) | exact fun _ => k_5184 | exact fun _ => (False.elim (by omega))) k_5183 u_5165 u_5166)
                        · have d_5185 := iEq c_5108
                          have i_5186 := u_5106 (by omega)
                          exact (hp _ _ _ hR_5084 hf_5087 (Or.inr rfl) (by first | omega | (intro h; omega) | exact Or.inl rfl | exact Or.inr rfl) (by first | omega | (intro h; omega) | exact Or.inl rfl | exact Or.inr rfl) (by first | omega | (intro h; omega) | exact Or.inl rfl | exact Or.inr rfl) (by first | omega | (intro h; omega) | exact Or.inl rfl | exact Or.inr rfl) (by first | omega | (intro h; omega) | exact Or.inl rfl | exact Or.inr rfl) (by first | (intro h; exfalso; omega) | exact fun _ => k_5099 | exact fun _ => (False.elim (by omega))) k_5100 k_5101 k_5102)
                  · have d_5187 := iEq c_4895
                    have i_5188 := u_4893 (by omega)
                    exact (hp _ _ _ hR_4871 hf_4874 (Or.inr rfl) (by first | omega | (intro h; omega) | exact Or.inl rfl | exact Or.inr rfl) (by first | omega | (intro h; omega) | exact Or.inl rfl | exact Or.inr rfl) (by first | omega | (intro h; omega) | exact Or.inl rfl | exact Or.inr rfl) (by first | omega | (intro h; omega) | exact Or.inl rfl | exact Or.inr rfl) (by first | omega | (intro h; omega) | exact Or.inl rfl | exact Or.inr rfl) (by first | (intro h; exfalso; omega) | exact fun _ => k_4886 | exact fun _ => (False.elim (by omega))) k_4887 k_4888 k_4889)
        · have d_5189 := iEq c_2744
          have i_5190 := u_2742 (by omega)
          exact (hp _ _ _ hR_2721 hf_2724 (Or.inr rfl) (by first | omega | (intro h; omega) | exact Or.inl rfl | exact Or.inr rfl) (by first | omega | (intro h; omega) | exact Or.inl rfl | exact Or.inr rfl) (by first | omega | (intro h; omega) | exact Or.inl rfl | exact Or.inr rfl) (by first | omega | (intro h; omega) | exact Or.inl rfl | exact Or.inr rfl) (by first | omega | (intro h; omega) | exact Or.inl rfl | exact Or.inr rfl) (by first | (intro h; exfalso; omega) | exact fun _ => k_2735 | exact fun _ => (False.elim (by omega))) k_2736 k_2737 k_2738)
      · have d_5191 := iNe c_2713
        exfalso; omega
    · have d_5192 := iNlt c_2710
      unfold fModel_unit_31
      unfold fModel_unit_36
      have l_5193 : (0 : Int32).toInt = 0 := rfl
      refine ⟨fun c_5194 => ?_, fun c_5194 => ?_⟩
      · have d_5195 := iEq c_5194
        exfalso; omega
      · have d_5196 := iNe c_5194
        have l_5197 : (7237492 : Int32).toInt = 7237492 := rfl
        refine y_Model_isWord hok hw ra hR (fun r_5198 u_5199 u_5200 => ⟨r_5198, I0, L0, rfl, rfl, ?_⟩)
        have b_5201 : 0 ≤ r_5198.toInt ∧ r_5198.toInt ≤ 1 := u_5199.rg
        refine ⟨fun c_5202 => ?_, fun c_5202 => ?_⟩
        · have d_5203 := iEq c_5202
          unfold fModel_unit_96
          refine y_Model_wordHere hok hw ra hz14 hz15 hR (fun r_5204 I_5208 L_5209 hR_5210 fr_5211 kp_5212 u_5205 u_5206 u_5207 => ⟨r_5204, I_5208, L_5209, rfl, rfl, ?_⟩)
          have hf_5213 : Fm (fun c => c = o ∨ (o + 30 ≤ c ∧ c < o + 34)) I0 I_5208 := hf.call fr_5211 (fun c hc => by first | exact hc | (dsimp only at hc ⊢; omega) | omega)
          have t_5214 : (I_5208 o 3).toInt = (I0 o 3).toInt := by rw [kp_5212 3 rfl]
          have g_5215 : (0 : Int) ≤ (I_5208 o 4).toInt ∧ (I_5208 o 4).toInt ≤ 5 := hR_5210.at0 ra 4 (by decide)
          have t_5216 : (I_5208 o 6).toInt = (I0 o 6).toInt := by rw [kp_5212 6 rfl]
          have t_5217 : (I_5208 o 7).toInt = (I0 o 7).toInt := by rw [kp_5212 7 rfl]
          have t_5218 : (I_5208 o 8).toInt = (I0 o 8).toInt := by rw [kp_5212 8 rfl]
          have t_5219 : (I_5208 o 9).toInt = (I0 o 9).toInt := by rw [kp_5212 9 rfl]
          have t_5220 : (I_5208 o 44).toInt = (I0 o 44).toInt := by rw [kp_5212 44 rfl]
          have t_5221 : (I_5208 o 45).toInt = (I0 o 45).toInt := by rw [kp_5212 45 rfl]
          have t_5222 : (I_5208 o 47).toInt = (I0 o 47).toInt := by rw [kp_5212 47 rfl]
          have t_5223 : (I_5208 o 48).toInt = (I0 o 48).toInt := by rw [kp_5212 48 rfl]
          have k_5224 : EX 0 0 0 f0 1 I_5208 o := hq2.fr (fr_5211 _ (by first | omega | (dsimp only; omega))) (fr_5211 _ (by first | omega | (dsimp only; omega))) (fr_5211 _ (by first | omega | (dsimp only; omega))) (fr_5211 _ (by first | omega | (dsimp only; omega))) (fr_5211 _ (by first | omega | (dsimp only; omega))) (kp_5212 3 rfl) (kp_5212 6 rfl) (kp_5212 44 rfl) (kp_5212 45 rfl) (kp_5212 47 rfl) (kp_5212 48 rfl)
          have k_5225 : MTd I_5208 o := hq3.fr (fr_5211 _ (by first | omega | (dsimp only; omega))) (fr_5211 _ (by first | omega | (dsimp only; omega))) (fr_5211 _ (by first | omega | (dsimp only; omega)))
          have k_5226 : MPo I_5208 o := hq4.fr (kp_5212 8 rfl) (kp_5212 9 rfl)
          have k_5227 : MTk I_5208 o := hq5.fr (kp_5212 6 rfl) (kp_5212 7 rfl) (kp_5212 8 rfl)
          refine y_Model_isGood hok hw ra hR_5210 (fun r_5228 u_5229 u_5230 u_5231 => ⟨r_5228, I_5208, L_5209, rfl, rfl, ?_⟩)
          have b_5232 : 0 ≤ r_5228.toInt ∧ r_5228.toInt ≤ 1 := u_5229.rg
          refine ⟨fun c_5233 => ?_, fun c_5233 => ?_⟩
          · have d_5234 := iNe c_5233
            have i_5235 := u_5230 (by omega)
            refine ⟨fun c_5236 => ?_, fun c_5236 => ?_⟩
            · have d_5237 := iNe c_5236
              have i_5238 := u_5205 (by omega)
              have i_5239 := u_5206 (by omega)
              unfold fModel_unit_131
              have g_5240 : (0 : Int) ≤ (I_5208 o 46).toInt ∧ (I_5208 o 46).toInt ≤ 100 := hR_5210.at0 ra 46 (by decide)
              have l_5241 : (100 : Int32).toInt = 100 := rfl
              refine ⟨fun c_5242 => ?_, fun c_5242 => ?_⟩
              · have d_5243 := iNe c_5242
                refine y_Model_isGood hok hw ra hR_5210 (fun r_5244 u_5245 u_5246 u_5247 => ⟨r_5244, I_5208, L_5209, rfl, rfl, ?_⟩)
                have b_5248 : 0 ≤ r_5244.toInt ∧ r_5244.toInt ≤ 1 := u_5245.rg
                refine ⟨fun c_5249 => ?_, fun c_5249 => ?_⟩
                · have d_5250 := iNe c_5249
                  have i_5251 := u_5246 (by omega)
                  have g_5252 : (0 : Int) ≤ (I_5208 o 46).toInt ∧ (I_5208 o 46).toInt ≤ 100 := hR_5210.at0 ra 46 (by decide)
                  have a_5253 : ((I_5208 o 46) + 1).toInt = (I_5208 o 46).toInt + (1 : Int32).toInt := tAdd (by omega) (by omega)
                  refine fun I_5254 e_5255 => ?_
                  have hR_5256 : RI R I_5254 := hR_5210.up0 (k := 46) ra (by decide) (Or.inr hz56) e_5255 (show (0 : Int) ≤ ((I_5208 o 46) + 1).toInt by omega) (show ((I_5208 o 46) + 1).toInt ≤ (100 : Int) by omega)
                  have hf_5257 : Fm (fun c => c = o ∨ (o + 30 ≤ c ∧ c < o + 34)) I0 I_5254 := hf_5213.set (by first | rfl | omega | (dsimp only; omega)) e_5255
                  have t_5258 : (I_5254 o 3).toInt = (I_5208 o 3).toInt := by rw [← e_5255, q_u_k (by decide)]
                  have t_5259 : (I_5254 o 4).toInt = (I_5208 o 4).toInt := by rw [← e_5255, q_u_k (by decide)]
                  have t_5260 : (I_5254 o 6).toInt = (I_5208 o 6).toInt := by rw [← e_5255, q_u_k (by decide)]
                  have t_5261 : (I_5254 o 7).toInt = (I_5208 o 7).toInt := by rw [← e_5255, q_u_k (by decide)]
                  have t_5262 : (I_5254 o 8).toInt = (I_5208 o 8).toInt := by rw [← e_5255, q_u_k (by decide)]
                  have t_5263 : (I_5254 o 9).toInt = (I_5208 o 9).toInt := by rw [← e_5255, q_u_k (by decide)]
                  have t_5264 : (I_5254 o 44).toInt = (I_5208 o 44).toInt := by rw [← e_5255, q_u_k (by decide)]
                  have t_5265 : (I_5254 o 45).toInt = (I_5208 o 45).toInt := by rw [← e_5255, q_u_k (by decide)]
                  have t_5266 : (I_5254 o 47).toInt = (I_5208 o 47).toInt := by rw [← e_5255, q_u_k (by decide)]
                  have t_5267 : (I_5254 o 48).toInt = (I_5208 o 48).toInt := by rw [← e_5255, q_u_k (by decide)]
                  have t_5268 : (I_5254 o 46).toInt = ((I_5208 o 46) + 1).toInt := by rw [← e_5255, q_u_at]
                  have k_5269 : EX 0 0 0 f0 1 I_5254 o := k_5224.fr (by rw [← e_5255]; exact q_u_ne (by omega)) (by rw [← e_5255]; exact q_u_ne (by omega)) (by rw [← e_5255]; exact q_u_ne (by omega)) (by rw [← e_5255]; exact q_u_ne (by omega)) (by rw [← e_5255]; exact q_u_ne (by omega)) (by rw [← e_5255, q_u_k (by decide)]) (by rw [← e_5255, q_u_k (by decide)]) (by rw [← e_5255, q_u_k (by decide)]) (by rw [← e_5255, q_u_k (by decide)]) (by rw [← e_5255, q_u_k (by decide)]) (by rw [← e_5255, q_u_k (by decide)])
                  have k_5270 : MTd I_5254 o := k_5225.fr (by rw [← e_5255]; exact q_u_ne (by omega)) (by rw [← e_5255]; exact q_u_ne (by omega)) (by rw [← e_5255]; exact q_u_ne (by omega))
                  have k_5271 : MPo I_5254 o := k_5226.fr (by rw [← e_5255, q_u_k (by decide)]) (by rw [← e_5255, q_u_k (by decide)])
                  have k_5272 : MTk I_5254 o := k_5227.fr (by rw [← e_5255, q_u_k (by decide)]) (by rw [← e_5255, q_u_k (by decide)]) (by rw [← e_5255, q_u_k (by decide)])
                  have l_5273 : (40 : Int32).toInt = 40 := rfl
                  refine y_Model_is hok hw ra hR_5256 (fun r_5274 u_5275 u_5276 u_5277 => ⟨r_5274, I_5254, L_5209, rfl, rfl, ?_⟩)
                  have b_5278 : 0 ≤ r_5274.toInt ∧ r_5274.toInt ≤ 1 := u_5275.rg
                  refine ⟨fun c_5279 => ?_, fun c_5279 => ?_⟩
                  · have d_5280 := iEq c_5279
                    have cd := k_5269.cod
                    have tk := k_5272.2 (by omega)
                    refine ⟨fun c_5281 => ?_, fun c_5281 => ?_⟩
                    · have d_5282 := iNe c_5281
                      have i_5283 := u_5205 (by omega)
                      have i_5284 := u_5206 (by omega)
                      unfold fModel_unit_228
                      refine ⟨fun c_5285 => ?_, fun c_5285 => ?_⟩
                      · have d_5286 := iNe c_5285
                        have i_5287 := u_5205 (by omega)
                        have i_5288 := u_5206 (by omega)
                        refine y_Model_step hok hw ra hz55 (by first | omega | (intro h; omega) | exact Or.inl rfl | exact Or.inr rfl) (by first | omega | (intro h; omega) | exact Or.inl rfl | exact Or.inr rfl) hR_5256 (fun I_5292 L_5293 hR_5294 fr_5295 kp_5296 u_5290 u_5291 => ⟨I_5292, L_5293, rfl, rfl, ?_⟩)
                        have hf_5297 : Fm (fun c => c = o ∨ (o + 30 ≤ c ∧ c < o + 34)) I0 I_5292 := hf_5257.call fr_5295 (fun c hc => by first | exact hc | (dsimp only at hc ⊢; omega) | omega)
                        have t_5298 : (I_5292 o 3).toInt = (I_5254 o 3).toInt := by rw [kp_5296 3 rfl]
                        have t_5299 : (I_5292 o 4).toInt = (I_5254 o 4).toInt := by rw [kp_5296 4 rfl]
                        have t_5300 : (I_5292 o 6).toInt = (I_5254 o 6).toInt := by rw [kp_5296 6 rfl]
                        have t_5301 : (I_5292 o 7).toInt = (I_5254 o 7).toInt := by rw [kp_5296 7 rfl]
                        have t_5302 : (I_5292 o 8).toInt = (I_5254 o 8).toInt := by rw [kp_5296 8 rfl]
                        have t_5303 : (I_5292 o 9).toInt = (I_5254 o 9).toInt := by rw [kp_5296 9 rfl]
                        have t_5304 : (I_5292 o 44).toInt = (I_5254 o 44).toInt := by rw [kp_5296 44 rfl]
                        have g_5305 : (0 : Int) ≤ (I_5292 o 45).toInt ∧ (I_5292 o 45).toInt ≤ 700 := hR_5294.at0 ra 45 (by decide)
                        have t_5306 : (I_5292 o 47).toInt = (I_5254 o 47).toInt := by rw [kp_5296 47 rfl]
                        have t_5307 : (I_5292 o 48).toInt = (I_5254 o 48).toInt := by rw [kp_5296 48 rfl]
                        have t_5308 : (I_5292 o 46).toInt = (I_5254 o 46).toInt := by rw [kp_5296 46 rfl]
                        have k_5309 : MPo I_5292 o := k_5271.fr (kp_5296 8 rfl) (kp_5296 9 rfl)
                        have k_5310 : MTk I_5292 o := k_5272.fr (kp_5296 6 rfl) (kp_5296 7 rfl) (kp_5296 8 rfl)
                        have tk := k_5310.2 (by omega)
                        have k_5311 : EX 0 0 1 f0 0 I_5292 o := by exact EX.step1 k_5269 (by first | exact u_5205 (by omega) | (unfold isT; decide)) (by omega) (fr_5295 _ (by first | omega | (dsimp only; omega))) (fr_5295 _ (by first | omega | (dsimp only; omega))) u_5290 (fr_5295 _ (by first | omega | (dsimp only; omega))) (fr_5295 _ (by first | omega | (dsimp only; omega))) (kp_5296 3 rfl) (kp_5296 6 rfl) (kp_5296 44 rfl) u_5291 (kp_5296 47 rfl) (kp_5296 48 rfl)
                        have k_5312 : MTd I_5292 o := by exact MTd.step k_5270 (fr_5295 _ (by first | omega | (dsimp only; omega))) (fr_5295 _ (by first | omega | (dsimp only; omega))) u_5290 (by omega)
                        refine y_Model_next hok hw ra hz16 hz17 hz18 hz19 (by first | omega | (intro h; omega) | exact Or.inl rfl | exact Or.inr rfl) hR_5294 (fun I_5322 L_5323 hR_5324 fr_5325 kp_5326 u_5314 u_5315 u_5316 u_5317 u_5318 u_5319 u_5320 u_5321 => ⟨I_5322, L_5323, rfl, rfl, ?_⟩)
                        have hf_5327 : Fm (fun c => c = o ∨ (o + 30 ≤ c ∧ c < o + 34)) I0 I_5322 := hf_5297.call fr_5325 (fun c hc => by first | exact hc | (dsimp only at hc ⊢; omega) | omega)
                        have t_5328 : (I_5322 o 3).toInt = (I_5292 o 3).toInt := by rw [kp_5326 3 rfl]
                        have t_5329 : (I_5322 o 4).toInt = (I_5292 o 4).toInt := by rw [kp_5326 4 rfl]
                        have g_5330 : (0 : Int) ≤ (I_5322 o 6).toInt ∧ (I_5322 o 6).toInt ≤ 1600 := hR_5324.at0 ra 6 (by decide)
                        have g_5331 : (0 : Int) ≤ (I_5322 o 7).toInt ∧ (I_5322 o 7).toInt ≤ 1601 := hR_5324.at0 ra 7 (by decide)
                        have g_5332 : (0 : Int) ≤ (I_5322 o 8).toInt ∧ (I_5322 o 8).toInt ≤ 6 := hR_5324.at0 ra 8 (by decide)
                        have t_5333 : (I_5322 o 44).toInt = (I_5292 o 44).toInt := by rw [kp_5326 44 rfl]
                        have t_5334 : (I_5322 o 45).toInt = (I_5292 o 45).toInt := by rw [kp_5326 45 rfl]
                        have t_5335 : (I_5322 o 47).toInt = (I_5292 o 47).toInt := by rw [kp_5326 47 rfl]
                        have t_5336 : (I_5322 o 48).toInt = (I_5292 o 48).toInt := by rw [kp_5326 48 rfl]
                        have t_5337 : (I_5322 o 46).toInt = (I_5292 o 46).toInt := by rw [kp_5326 46 rfl]
                        have k_5338 : MTd I_5322 o := k_5312.fr (fr_5325 _ (by first | omega | (dsimp only; omega))) (fr_5325 _ (by first | omega | (dsimp only; omega))) (fr_5325 _ (by first | omega | (dsimp only; omega)))
                        have ms := u_5317 (by omega)
                        have k_5339 : EX 0 0 0 f0 0 I_5322 o := by exact EX.nx k_5311 (fr_5325 _ (by first | omega | (dsimp only; omega))) (fr_5325 _ (by first | omega | (dsimp only; omega))) (fr_5325 _ (by first | omega | (dsimp only; omega))) (fr_5325 _ (by first | omega | (dsimp only; omega))) (fr_5325 _ (by first | omega | (dsimp only; omega))) (kp_5326 3 rfl) (kp_5326 44 rfl) (kp_5326 45 rfl) (kp_5326 47 rfl) (kp_5326 48 rfl) (by omega) (by omega)
                        exact (hp _ _ _ hR_5324 hf_5327 (Or.inl rfl) (by first | omega | (intro h; omega) | exact Or.inl rfl | exact Or.inr rfl) (by first | omega | (intro h; omega) | exact Or.inl rfl | exact Or.inr rfl) (by first | omega | (intro h; omega) | exact Or.inl rfl | exact Or.inr rfl) (by first | omega | (intro h; omega) | exact Or.inl rfl | exact Or.inr rfl) (by first | omega | (intro h; omega) | exact Or.inl rfl | exact Or.inr rfl) (by first | (intro h; exfalso; omega) | exact fun _ => (False.elim (by omega)) | exact fun _ => k_5339) k_5338 u_5320 u_5321)
                      · have d_5340 := iEq c_5285
                        refine y_Model_step hok hw ra hz55 (by first | omega | (intro h; omega) | exact Or.inl rfl | exact Or.inr rfl) (by first | omega | (intro h; omega) | exact Or.inl rfl | exact Or.inr rfl) hR_5256 (fun I_5344 L_5345 hR_5346 fr_5347 kp_5348 u_5342 u_5343 => ⟨I_5344, L_5345, rfl, rfl, ?_⟩)
                        have hf_5349 : Fm (fun c => c = o ∨ (o + 30 ≤ c ∧ c < o + 34)) I0 I_5344 := hf_5257.call fr_5347 (fun c hc => by first | exact hc | (dsimp only at hc ⊢; omega) | omega)
                        have t_5350 : (I_5344 o 3).toInt = (I_5254 o 3).toInt := by rw [kp_5348 3 rfl]
                        have t_5351 : (I_5344 o 4).toInt = (I_5254 o 4).toInt := by rw [kp_5348 4 rfl]
                        have t_5352 : (I_5344 o 6).toInt = (I_5254 o 6).toInt := by rw [kp_5348 6 rfl]
                        have t_5353 : (I_5344 o 7).toInt = (I_5254 o 7).toInt := by rw [kp_5348 7 rfl]
                        have t_5354 : (I_5344 o 8).toInt = (I_5254 o 8).toInt := by rw [kp_5348 8 rfl]
                        have t_5355 : (I_5344 o 9).toInt = (I_5254 o 9).toInt := by rw [kp_5348 9 rfl]
                        have t_5356 : (I_5344 o 44).toInt = (I_5254 o 44).toInt := by rw [kp_5348 44 rfl]
                        have g_5357 : (0 : Int) ≤ (I_5344 o 45).toInt ∧ (I_5344 o 45).toInt ≤ 700 := hR_5346.at0 ra 45 (by decide)
                        have t_5358 : (I_5344 o 47).toInt = (I_5254 o 47).toInt := by rw [kp_5348 47 rfl]
                        have t_5359 : (I_5344 o 48).toInt = (I_5254 o 48).toInt := by rw [kp_5348 48 rfl]
                        have t_5360 : (I_5344 o 46).toInt = (I_5254 o 46).toInt := by rw [kp_5348 46 rfl]
                        have k_5361 : MPo I_5344 o := k_5271.fr (kp_5348 8 rfl) (kp_5348 9 rfl)
                        have k_5362 : MTk I_5344 o := k_5272.fr (kp_5348 6 rfl) (kp_5348 7 rfl) (kp_5348 8 rfl)
                        have tk := k_5362.2 (by omega)
                        have k_5363 : EX 0 0 1 f0 0 I_5344 o := by exact EX.step1 k_5269 (by first | exact u_5205 (by omega) | (unfold isT; decide)) (by omega) (fr_5347 _ (by first | omega | (dsimp only; omega))) (fr_5347 _ (by first | omega | (dsimp only; omega))) u_5342 (fr_5347 _ (by first | omega | (dsimp only; omega))) (fr_5347 _ (by first | omega | (dsimp only; omega))) (kp_5348 3 rfl) (kp_5348 6 rfl) (kp_5348 44 rfl) u_5343 (kp_5348 47 rfl) (kp_5348 48 rfl)
                        have k_5364 : MTd I_5344 o := by exact MTd.step k_5270 (fr_5347 _ (by first | omega | (dsimp only; omega))) (fr_5347 _ (by first | omega | (dsimp only; omega))) u_5342 (by omega)
                        refine y_Model_next hok hw ra hz16 hz17 hz18 hz19 (by first | omega | (intro h; omega) | exact Or.inl rfl | exact Or.inr rfl) hR_5346 (fun I_5374 L_5375 hR_5376 fr_5377 kp_5378 u_5366 u_5367 u_5368 u_5369 u_5370 u_5371 u_5372 u_5373 => ⟨I_5374, L_5375, rfl, rfl, ?_⟩)
                        have hf_5379 : Fm (fun c => c = o ∨ (o + 30 ≤ c ∧ c < o + 34)) I0 I_5374 := hf_5349.call fr_5377 (fun c hc => by first | exact hc | (dsimp only at hc ⊢; omega) | omega)
                        have t_5380 : (I_5374 o 3).toInt = (I_5344 o 3).toInt := by rw [kp_5378 3 rfl]
                        have t_5381 : (I_5374 o 4).toInt = (I_5344 o 4).toInt := by rw [kp_5378 4 rfl]
                        have g_5382 : (0 : Int) ≤ (I_5374 o 6).toInt ∧ (I_5374 o 6).toInt ≤ 1600 := hR_5376.at0 ra 6 (by decide)
                        have g_5383 : (0 : Int) ≤ (I_5374 o 7).toInt ∧ (I_5374 o 7).toInt ≤ 1601 := hR_5376.at0 ra 7 (by decide)
                        have g_5384 : (0 : Int) ≤ (I_5374 o 8).toInt ∧ (I_5374 o 8).toInt ≤ 6 := hR_5376.at0 ra 8 (by decide)
                        have t_5385 : (I_5374 o 44).toInt = (I_5344 o 44).toInt := by rw [kp_5378 44 rfl]
                        have t_5386 : (I_5374 o 45).toInt = (I_5344 o 45).toInt := by rw [kp_5378 45 rfl]
                        have t_5387 : (I_5374 o 47).toInt = (I_5344 o 47).toInt := by rw [kp_5378 47 rfl]
                        have t_5388 : (I_5374 o 48).toInt = (I_5344 o 48).toInt := by rw [kp_5378 48 rfl]
                        have t_5389 : (I_5374 o 46).toInt = (I_5344 o 46).toInt := by rw [kp_5378 46 rfl]
                        have k_5390 : MTd I_5374 o := k_5364.fr (fr_5377 _ (by first | omega | (dsimp only; omega))) (fr_5377 _ (by first | omega | (dsimp only; omega))) (fr_5377 _ (by first | omega | (dsimp only; omega)))
                        have ms := u_5369 (by omega)
                        have k_5391 : EX 0 0 0 f0 0 I_5374 o := by exact EX.nx k_5363 (fr_5377 _ (by first | omega | (dsimp only; omega))) (fr_5377 _ (by first | omega | (dsimp only; omega))) (fr_5377 _ (by first | omega | (dsimp only; omega))) (fr_5377 _ (by first | omega | (dsimp only; omega))) (fr_5377 _ (by first | omega | (dsimp only; omega))) (kp_5378 3 rfl) (kp_5378 44 rfl) (kp_5378 45 rfl) (kp_5378 47 rfl) (kp_5378 48 rfl) (by omega) (by omega)
                        exact (hp _ _ _ hR_5376 hf_5379 (Or.inl rfl) (by first | omega | (intro h; omega) | exact Or.inl rfl | exact Or.inr rfl) (by first | omega | (intro h; omega) | exact Or.inl rfl | exact Or.inr rfl) (by first | omega | (intro h; omega) | exact Or.inl rfl | exact Or.inr rfl) (by first | omega | (intro h; omega) | exact Or.inl rfl | exact Or.inr rfl) (by first | omega | (intro h; omega) | exact Or.inl rfl | exact Or.inr rfl) (by first | (intro h; exfalso; omega) | exact fun _ => (False.elim (by omega)) | exact fun _ => k_5391) k_5390 u_5372 u_5373)
                    · have d_5392 := iEq c_5281
                      unfold fModel_unit_228
                      have l_5393 : (78 : Int32).toInt = 78 := rfl
                      refine ⟨fun c_5394 => ?_, fun c_5394 => ?_⟩
                      · have d_5395 := iNe c_5394
                        have i_5396 := u_5205 (by omega)
                        have i_5397 := u_5206 (by omega)
                        exfalso; omega
                      · have d_5398 := iEq c_5394
                        refine y_Model_step hok hw ra hz55 (by first | omega | (intro h; omega) | exact Or.inl rfl | exact Or.inr rfl) (by first | omega | (intro h; omega) | exact Or.inl rfl | exact Or.inr rfl) hR_5256 (fun I_5402 L_5403 hR_5404 fr_5405 kp_5406 u_5400 u_5401 => ⟨I_5402, L_5403, rfl, rfl, ?_⟩)
                        have hf_5407 : Fm (fun c => c = o ∨ (o + 30 ≤ c ∧ c < o + 34)) I0 I_5402 := hf_5257.call fr_5405 (fun c hc => by first | exact hc | (dsimp only at hc ⊢; omega) | omega)
                        have t_5408 : (I_5402 o 3).toInt = (I_5254 o 3).toInt := by rw [kp_5406 3 rfl]
                        have t_5409 : (I_5402 o 4).toInt = (I_5254 o 4).toInt := by rw [kp_5406 4 rfl]
                        have t_5410 : (I_5402 o 6).toInt = (I_5254 o 6).toInt := by rw [kp_5406 6 rfl]
                        have t_5411 : (I_5402 o 7).toInt = (I_5254 o 7).toInt := by rw [kp_5406 7 rfl]
                        have t_5412 : (I_5402 o 8).toInt = (I_5254 o 8).toInt := by rw [kp_5406 8 rfl]
                        have t_5413 : (I_5402 o 9).toInt = (I_5254 o 9).toInt := by rw [kp_5406 9 rfl]
                        have t_5414 : (I_5402 o 44).toInt = (I_5254 o 44).toInt := by rw [kp_5406 44 rfl]
                        have g_5415 : (0 : Int) ≤ (I_5402 o 45).toInt ∧ (I_5402 o 45).toInt ≤ 700 := hR_5404.at0 ra 45 (by decide)
                        have t_5416 : (I_5402 o 47).toInt = (I_5254 o 47).toInt := by rw [kp_5406 47 rfl]
                        have t_5417 : (I_5402 o 48).toInt = (I_5254 o 48).toInt := by rw [kp_5406 48 rfl]
                        have t_5418 : (I_5402 o 46).toInt = (I_5254 o 46).toInt := by rw [kp_5406 46 rfl]
                        have k_5419 : MPo I_5402 o := k_5271.fr (kp_5406 8 rfl) (kp_5406 9 rfl)
                        have k_5420 : MTk I_5402 o := k_5272.fr (kp_5406 6 rfl) (kp_5406 7 rfl) (kp_5406 8 rfl)
                        have tk := k_5420.2 (by omega)
                        have k_5421 : EX 0 0 1 f0 0 I_5402 o := by exact EX.step1 k_5269 (by first | exact u_5205 (by omega) | (unfold isT; decide)) (by omega) (fr_5405 _ (by first | omega | (dsimp only; omega))) (fr_5405 _ (by first | omega | (dsimp only; omega))) u_5400 (fr_5405 _ (by first | omega | (dsimp only; omega))) (fr_5405 _ (by first | omega | (dsimp only; omega))) (kp_5406 3 rfl) (kp_5406 6 rfl) (kp_5406 44 rfl) u_5401 (kp_5406 47 rfl) (kp_5406 48 rfl)
                        have k_5422 : MTd I_5402 o := by exact MTd.step k_5270 (fr_5405 _ (by first | omega | (dsimp only; omega))) (fr_5405 _ (by first | omega | (dsimp only; omega))) u_5400 (by omega)
                        refine y_Model_next hok hw ra hz16 hz17 hz18 hz19 (by first | omega | (intro h; omega) | exact Or.inl rfl | exact Or.inr rfl) hR_5404 (fun I_5432 L_5433 hR_5434 fr_5435 kp_5436 u_5424 u_5425 u_5426 u_5427 u_5428 u_5429 u_5430 u_5431 => ⟨I_5432, L_5433, rfl, rfl, ?_⟩)
                        have hf_5437 : Fm (fun c => c = o ∨ (o + 30 ≤ c ∧ c < o + 34)) I0 I_5432 := hf_5407.call fr_5435 (fun c hc => by first | exact hc | (dsimp only at hc ⊢; omega) | omega)
                        have t_5438 : (I_5432 o 3).toInt = (I_5402 o 3).toInt := by rw [kp_5436 3 rfl]
                        have t_5439 : (I_5432 o 4).toInt = (I_5402 o 4).toInt := by rw [kp_5436 4 rfl]
                        have g_5440 : (0 : Int) ≤ (I_5432 o 6).toInt ∧ (I_5432 o 6).toInt ≤ 1600 := hR_5434.at0 ra 6 (by decide)
                        have g_5441 : (0 : Int) ≤ (I_5432 o 7).toInt ∧ (I_5432 o 7).toInt ≤ 1601 := hR_5434.at0 ra 7 (by decide)
                        have g_5442 : (0 : Int) ≤ (I_5432 o 8).toInt ∧ (I_5432 o 8).toInt ≤ 6 := hR_5434.at0 ra 8 (by decide)
                        have t_5443 : (I_5432 o 44).toInt = (I_5402 o 44).toInt := by rw [kp_5436 44 rfl]
                        have t_5444 : (I_5432 o 45).toInt = (I_5402 o 45).toInt := by rw [kp_5436 45 rfl]
                        have t_5445 : (I_5432 o 47).toInt = (I_5402 o 47).toInt := by rw [kp_5436 47 rfl]
                        have t_5446 : (I_5432 o 48).toInt = (I_5402 o 48).toInt := by rw [kp_5436 48 rfl]
                        have t_5447 : (I_5432 o 46).toInt = (I_5402 o 46).toInt := by rw [kp_5436 46 rfl]
                        have k_5448 : MTd I_5432 o := k_5422.fr (fr_5435 _ (by first | omega | (dsimp only; omega))) (fr_5435 _ (by first | omega | (dsimp only; omega))) (fr_5435 _ (by first | omega | (dsimp only; omega)))
                        have ms := u_5427 (by omega)
                        have k_5449 : EX 0 0 0 f0 0 I_5432 o := by exact EX.nx k_5421 (fr_5435 _ (by first | omega | (dsimp only; omega))) (fr_5435 _ (by first | omega | (dsimp only; omega))) (fr_5435 _ (by first | omega | (dsimp only; omega))) (fr_5435 _ (by first | omega | (dsimp only; omega))) (fr_5435 _ (by first | omega | (dsimp only; omega))) (kp_5436 3 rfl) (kp_5436 44 rfl) (kp_5436 45 rfl) (kp_5436 47 rfl) (kp_5436 48 rfl) (by omega) (by omega)
                        exact (hp _ _ _ hR_5434 hf_5437 (Or.inl rfl) (by first | omega | (intro h; omega) | exact Or.inl rfl | exact Or.inr rfl) (by first | omega | (intro h; omega) | exact Or.inl rfl | exact Or.inr rfl) (by first | omega | (intro h; omega) | exact Or.inl rfl | exact Or.inr rfl) (by first | omega | (intro h; omega) | exact Or.inl rfl | exact Or.inr rfl) (by first | omega | (intro h; omega) | exact Or.inl rfl | exact Or.inr rfl) (by first | (intro h; exfalso; omega) | exact fun _ => (False.elim (by omega)) | exact fun _ => k_5449) k_5448 u_5430 u_5431)
                  · have d_5450 := iNe c_5279
                    have i_5451 := u_5276 (by omega)
                    have i_5452 := u_5277 (by omega)
                    have g_5453 : (0 : Int) ≤ (I_5254 o 47).toInt ∧ (I_5254 o 47).toInt ≤ 7 := hR_5256.at0 ra 47 (by decide)
                    refine ⟨fun c_5454 => ?_, fun c_5454 => ?_⟩
                    · have d_5455 := iNe c_5454
                      refine y_Model_isGood hok hw ra hR_5256 (fun r_5456 u_5457 u_5458 u_5459 => ⟨r_5456, I_5254, L_5209, rfl, rfl, ?_⟩)
                      have b_5460 : 0 ≤ r_5456.toInt ∧ r_5456.toInt ≤ 1 := u_5457.rg
                      refine ⟨fun c_5461 => ?_, fun c_5461 => ?_⟩
                      · have d_5462 := iNe c_5461
                        have i_5463 := u_5458 (by omega)
                        refine y_Model_pile hok hw ra hz58 (by first | omega | (intro h; omega) | exact Or.inl rfl | exact Or.inr rfl) (by first | omega | (intro h; omega) | exact Or.inl rfl | exact Or.inr rfl) hR_5256 (fun I_5468 L_5469 hR_5470 fr_5471 kp_5472 u_5465 u_5466 u_5467 => ⟨I_5468, L_5469, rfl, rfl, ?_⟩)
                        have hf_5473 : Fm (fun c => c = o ∨ (o + 30 ≤ c ∧ c < o + 34)) I0 I_5468 := hf_5257.call fr_5471 (fun c hc => by first | exact hc | (dsimp only at hc ⊢; omega) | omega)
                        have t_5474 : (I_5468 o 3).toInt = (I_5254 o 3).toInt := by rw [kp_5472 3 rfl]
                        have t_5475 : (I_5468 o 4).toInt = (I_5254 o 4).toInt := by rw [kp_5472 4 rfl]
                        have t_5476 : (I_5468 o 6).toInt = (I_5254 o 6).toInt := by rw [kp_5472 6 rfl]
                        have t_5477 : (I_5468 o 7).toInt = (I_5254 o 7).toInt := by rw [kp_5472 7 rfl]
                        have t_5478 : (I_5468 o 8).toInt = (I_5254 o 8).toInt := by rw [kp_5472 8 rfl]
                        have t_5479 : (I_5468 o 9).toInt = (I_5254 o 9).toInt := by rw [kp_5472 9 rfl]
                        have t_5480 : (I_5468 o 44).toInt = (I_5254 o 44).toInt := by rw [kp_5472 44 rfl]
                        have t_5481 : (I_5468 o 45).toInt = (I_5254 o 45).toInt := by rw [kp_5472 45 rfl]
                        have t_5482 : (I_5468 o 47).toInt = (I_5254 o 47).toInt := by rw [kp_5472 47 rfl]
                        have g_5483 : (0 : Int) ≤ (I_5468 o 48).toInt ∧ (I_5468 o 48).toInt ≤ 80 := hR_5470.at0 ra 48 (by decide)
                        have t_5484 : (I_5468 o 46).toInt = (I_5254 o 46).toInt := by rw [kp_5472 46 rfl]
                        have k_5485 : MTd I_5468 o := k_5270.fr (fr_5471 _ (by first | omega | (dsimp only; omega))) (fr_5471 _ (by first | omega | (dsimp only; omega))) (fr_5471 _ (by first | omega | (dsimp only; omega)))
                        have k_5486 : MPo I_5468 o := k_5271.fr (kp_5472 8 rfl) (kp_5472 9 rfl)
                        have k_5487 : MTk I_5468 o := k_5272.fr (kp_5472 6 rfl) (kp_5472 7 rfl) (kp_5472 8 rfl)
                        have k_5488 : EX 0 1 1 f0 1 I_5468 o := by have z := EX.push k_5269 (v := 7) (s := 0) (dB := 1) (dO := 0) (wt' := 1) (by decide) (by decide) (by decide) (by omega) ⟨by decide, by decide⟩ ⟨fun h => absurd h (by decide), fun h => absurd h (by decide)⟩ (Or.inl rfl) (fr_5471 _ (by first | omega | (dsimp only; omega))) (fr_5471 _ (by first | omega | (dsimp only; omega))) (fr_5471 _ (by first | omega | (dsimp only; omega))) u_5465 u_5466 (kp_5472 3 rfl) (kp_5472 6 rfl) (kp_5472 44 rfl) (kp_5472 45 rfl) (kp_5472 47 rfl) u_5467; exact EX.chg (b' := 1) z rfl rfl rfl rfl rfl rfl rfl rfl rfl rfl (by omega) z.pl
                        have g_5489 : (0 : Int) ≤ (I_5468 o 47).toInt ∧ (I_5468 o 47).toInt ≤ 7 := hR_5470.at0 ra 47 (by decide)
                        have a_5490 : ((I_5468 o 47) + 1).toInt = (I_5468 o 47).toInt + (1 : Int32).toInt := tAdd (by omega) (by omega)
                        refine fun I_5491 e_5492 => ?_
                        have hR_5493 : RI R I_5491 := hR_5470.up0 (k := 47) ra (by decide) (Or.inr hz57) e_5492 (show (0 : Int) ≤ ((I_5468 o 47) + 1).toInt by omega) (show ((I_5468 o 47) + 1).toInt ≤ (7 : Int) by omega)
                        have hf_5494 : Fm (fun c => c = o ∨ (o + 30 ≤ c ∧ c < o + 34)) I0 I_5491 := hf_5473.set (by first | rfl | omega | (dsimp only; omega)) e_5492
                        have t_5495 : (I_5491 o 3).toInt = (I_5468 o 3).toInt := by rw [← e_5492, q_u_k (by decide)]
                        have t_5496 : (I_5491 o 4).toInt = (I_5468 o 4).toInt := by rw [← e_5492, q_u_k (by decide)]
                        have t_5497 : (I_5491 o 6).toInt = (I_5468 o 6).toInt := by rw [← e_5492, q_u_k (by decide)]
                        have t_5498 : (I_5491 o 7).toInt = (I_5468 o 7).toInt := by rw [← e_5492, q_u_k (by decide)]
                        have t_5499 : (I_5491 o 8).toInt = (I_5468 o 8).toInt := by rw [← e_5492, q_u_k (by decide)]
                        have t_5500 : (I_5491 o 9).toInt = (I_5468 o 9).toInt := by rw [← e_5492, q_u_k (by decide)]
                        have t_5501 : (I_5491 o 44).toInt = (I_5468 o 44).toInt := by rw [← e_5492, q_u_k (by decide)]
                        have t_5502 : (I_5491 o 45).toInt = (I_5468 o 45).toInt := by rw [← e_5492, q_u_k (by decide)]
                        have t_5503 : (I_5491 o 47).toInt = ((I_5468 o 47) + 1).toInt := by rw [← e_5492, q_u_at]
                        have t_5504 : (I_5491 o 48).toInt = (I_5468 o 48).toInt := by rw [← e_5492, q_u_k (by decide)]
                        have t_5505 : (I_5491 o 46).toInt = (I_5468 o 46).toInt := by rw [← e_5492, q_u_k (by decide)]
                        have k_5506 : MTd I_5491 o := k_5485.fr (by rw [← e_5492]; exact q_u_ne (by omega)) (by rw [← e_5492]; exact q_u_ne (by omega)) (by rw [← e_5492]; exact q_u_ne (by omega))
                        have k_5507 : MPo I_5491 o := k_5486.fr (by rw [← e_5492, q_u_k (by decide)]) (by rw [← e_5492, q_u_k (by decide)])
                        have k_5508 : MTk I_5491 o := k_5487.fr (by rw [← e_5492, q_u_k (by decide)]) (by rw [← e_5492, q_u_k (by decide)]) (by rw [← e_5492, q_u_k (by decide)])
                        have tk := k_5508.2 (by omega)
                        have k_5510 : EX 0 0 1 f0 1 I_5491 o := by exact EX.put47 k_5488 e_5492 (by omega)
                        refine y_Model_next hok hw ra hz16 hz17 hz18 hz19 (by first | omega | (intro h; omega) | exact Or.inl rfl | exact Or.inr rfl) hR_5493 (fun I_5520 L_5521 hR_5522 fr_5523 kp_5524 u_5512 u_5513 u_5514 u_5515 u_5516 u_5517 u_5518 u_5519 => ⟨I_5520, L_5521, rfl, rfl, ?_⟩)
                        have hf_5525 : Fm (fun c => c = o ∨ (o + 30 ≤ c ∧ c < o + 34)) I0 I_5520 := hf_5494.call fr_5523 (fun c hc => by first | exact hc | (dsimp only at hc ⊢; omega) | omega)
                        have t_5526 : (I_5520 o 3).toInt = (I_5491 o 3).toInt := by rw [kp_5524 3 rfl]
                        have t_5527 : (I_5520 o 4).toInt = (I_5491 o 4).toInt := by rw [kp_5524 4 rfl]
                        have g_5528 : (0 : Int) ≤ (I_5520 o 6).toInt ∧ (I_5520 o 6).toInt ≤ 1600 := hR_5522.at0 ra 6 (by decide)
                        have g_5529 : (0 : Int) ≤ (I_5520 o 7).toInt ∧ (I_5520 o 7).toInt ≤ 1601 := hR_5522.at0 ra 7 (by decide)
                        have g_5530 : (0 : Int) ≤ (I_5520 o 8).toInt ∧ (I_5520 o 8).toInt ≤ 6 := hR_5522.at0 ra 8 (by decide)
                        have t_5531 : (I_5520 o 44).toInt = (I_5491 o 44).toInt := by rw [kp_5524 44 rfl]
                        have t_5532 : (I_5520 o 45).toInt = (I_5491 o 45).toInt := by rw [kp_5524 45 rfl]
                        have t_5533 : (I_5520 o 47).toInt = (I_5491 o 47).toInt := by rw [kp_5524 47 rfl]
                        have t_5534 : (I_5520 o 48).toInt = (I_5491 o 48).toInt := by rw [kp_5524 48 rfl]
                        have t_5535 : (I_5520 o 46).toInt = (I_5491 o 46).toInt := by rw [kp_5524 46 rfl]
                        have k_5536 : MTd I_5520 o := k_5506.fr (fr_5523 _ (by first | omega | (dsimp only; omega))) (fr_5523 _ (by first | omega | (dsimp only; omega))) (fr_5523 _ (by first | omega | (dsimp only; omega)))
                        have ms := u_5515 (by omega)
                        have k_5537 : EX 0 0 0 f0 1 I_5520 o := by exact EX.nx k_5510 (fr_5523 _ (by first | omega | (dsimp only; omega))) (fr_5523 _ (by first | omega | (dsimp only; omega))) (fr_5523 _ (by first | omega | (dsimp only; omega))) (fr_5523 _ (by first | omega | (dsimp only; omega))) (fr_5523 _ (by first | omega | (dsimp only; omega))) (kp_5524 3 rfl) (kp_5524 44 rfl) (kp_5524 45 rfl) (kp_5524 47 rfl) (kp_5524 48 rfl) (by omega) (by omega)
                        exact (hp _ _ _ hR_5522 hf_5525 (Or.inr rfl) (by first | omega | (intro h; omega) | exact Or.inl rfl | exact Or.inr rfl) (by first | omega | (intro h; omega) | exact Or.inl rfl | exact Or.inr rfl) (by first | omega | (intro h; omega) | exact Or.inl rfl | exact Or.inr rfl) (by first | omega | (intro h; omega) | exact Or.inl rfl | exact Or.inr rfl) (by first | omega | (intro h; omega) | exact Or.inl rfl | exact Or.inr rfl) (by first | (intro h; exfalso; omega) | exact fun _ => k_5537 | exact fun _ => (False.elim (by omega))) k_5536 u_5518 u_5519)
                      · have d_5538 := iEq c_5461
                        have i_5539 := u_5459 (by omega)
                        exact (hp _ _ _ hR_5256 hf_5257 (Or.inr rfl) (by first | omega | (intro h; omega) | exact Or.inl rfl | exact Or.inr rfl) (by first | omega | (intro h; omega) | exact Or.inl rfl | exact Or.inr rfl) (by first | omega | (intro h; omega) | exact Or.inl rfl | exact Or.inr rfl) (by first | omega | (intro h; omega) | exact Or.inl rfl | exact Or.inr rfl) (by first | omega | (intro h; omega) | exact Or.inl rfl | exact Or.inr rfl) (by first | (intro h; exfalso; omega) | exact fun _ => k_5269 | exact fun _ => (False.elim (by omega))) k_5270 k_5271 k_5272)
                    · have d_5540 := iEq c_5454
                      refine y_Model_wrong hok hw ra hz14 hz15 hR_5256 (fun I_5544 L_5545 hR_5546 fr_5547 kp_5548 u_5542 u_5543 => ⟨I_5544, L_5545, rfl, rfl, ?_⟩)
                      have hf_5549 : Fm (fun c => c = o ∨ (o + 30 ≤ c ∧ c < o + 34)) I0 I_5544 := hf_5257.call fr_5547 (fun c hc => by first | exact hc | (dsimp only at hc ⊢; omega) | omega)
                      have t_5550 : (I_5544 o 3).toInt = (I_5254 o 3).toInt := by rw [kp_5548 3 rfl]
                      have g_5551 : (0 : Int) ≤ (I_5544 o 4).toInt ∧ (I_5544 o 4).toInt ≤ 5 := hR_5546.at0 ra 4 (by decide)
                      have t_5552 : (I_5544 o 6).toInt = (I_5254 o 6).toInt := by rw [kp_5548 6 rfl]
                      have t_5553 : (I_5544 o 7).toInt = (I_5254 o 7).toInt := by rw [kp_5548 7 rfl]
                      have t_5554 : (I_5544 o 8).toInt = (I_5254 o 8).toInt := by rw [kp_5548 8 rfl]
                      have t_5555 : (I_5544 o 9).toInt = (I_5254 o 9).toInt := by rw [kp_5548 9 rfl]
                      have t_5556 : (I_5544 o 44).toInt = (I_5254 o 44).toInt := by rw [kp_5548 44 rfl]
                      have t_5557 : (I_5544 o 45).toInt = (I_5254 o 45).toInt := by rw [kp_5548 45 rfl]
                      have t_5558 : (I_5544 o 47).toInt = (I_5254 o 47).toInt := by rw [kp_5548 47 rfl]
                      have t_5559 : (I_5544 o 48).toInt = (I_5254 o 48).toInt := by rw [kp_5548 48 rfl]
                      have t_5560 : (I_5544 o 46).toInt = (I_5254 o 46).toInt := by rw [kp_5548 46 rfl]
                      have k_5561 : EX 0 0 0 f0 1 I_5544 o := k_5269.fr (fr_5547 _ (by first | omega | (dsimp only; omega))) (fr_5547 _ (by first | omega | (dsimp only; omega))) (fr_5547 _ (by first | omega | (dsimp only; omega))) (fr_5547 _ (by first | omega | (dsimp only; omega))) (fr_5547 _ (by first | omega | (dsimp only; omega))) (kp_5548 3 rfl) (kp_5548 6 rfl) (kp_5548 44 rfl) (kp_5548 45 rfl) (kp_5548 47 rfl) (kp_5548 48 rfl)
                      have k_5562 : MTd I_5544 o := k_5270.fr (fr_5547 _ (by first | omega | (dsimp only; omega))) (fr_5547 _ (by first | omega | (dsimp only; omega))) (fr_5547 _ (by first | omega | (dsimp only; omega)))
                      have k_5563 : MPo I_5544 o := k_5271.fr (kp_5548 8 rfl) (kp_5548 9 rfl)
                      have k_5564 : MTk I_5544 o := k_5272.fr (kp_5548 6 rfl) (kp_5548 7 rfl) (kp_5548 8 rfl)
                      refine y_Model_isGood hok hw ra hR_5546 (fun r_5565 u_5566 u_5567 u_5568 => ⟨r_5565, I_5544, L_5545, rfl, rfl, ?_⟩)
                      have b_5569 : 0 ≤ r_5565.toInt ∧ r_5565.toInt ≤ 1 := u_5566.rg
                      refine ⟨fun c_5570 => ?_, fun c_5570 => ?_⟩
                      · have d_5571 := iNe c_5570
                        have i_5572 := u_5567 (by omega)
                        refine y_Model_pile hok hw ra hz58 (by first | omega | (intro h; omega) | exact Or.inl rfl | exact Or.inr rfl) (by first | omega | (intro h; omega) | exact Or.inl rfl | exact Or.inr rfl) hR_5546 (fun I_5577 L_5578 hR_5579 fr_5580 kp_5581 u_5574 u_5575 u_5576 => ⟨I_5577, L_5578, rfl, rfl, ?_⟩)
                        have hf_5582 : Fm (fun c => c = o ∨ (o + 30 ≤ c ∧ c < o + 34)) I0 I_5577 := hf_5549.call fr_5580 (fun c hc => by first | exact hc | (dsimp only at hc ⊢; omega) | omega)
                        have t_5583 : (I_5577 o 3).toInt = (I_5544 o 3).toInt := by rw [kp_5581 3 rfl]
                        have t_5584 : (I_5577 o 4).toInt = (I_5544 o 4).toInt := by rw [kp_5581 4 rfl]
                        have t_5585 : (I_5577 o 6).toInt = (I_5544 o 6).toInt := by rw [kp_5581 6 rfl]
                        have t_5586 : (I_5577 o 7).toInt = (I_5544 o 7).toInt := by rw [kp_5581 7 rfl]
                        have t_5587 : (I_5577 o 8).toInt = (I_5544 o 8).toInt := by rw [kp_5581 8 rfl]
                        have t_5588 : (I_5577 o 9).toInt = (I_5544 o 9).toInt := by rw [kp_5581 9 rfl]
                        have t_5589 : (I_5577 o 44).toInt = (I_5544 o 44).toInt := by rw [kp_5581 44 rfl]
                        have t_5590 : (I_5577 o 45).toInt = (I_5544 o 45).toInt := by rw [kp_5581 45 rfl]
                        have t_5591 : (I_5577 o 47).toInt = (I_5544 o 47).toInt := by rw [kp_5581 47 rfl]
                        have g_5592 : (0 : Int) ≤ (I_5577 o 48).toInt ∧ (I_5577 o 48).toInt ≤ 80 := hR_5579.at0 ra 48 (by decide)
                        have t_5593 : (I_5577 o 46).toInt = (I_5544 o 46).toInt := by rw [kp_5581 46 rfl]
                        have k_5594 : MTd I_5577 o := k_5562.fr (fr_5580 _ (by first | omega | (dsimp only; omega))) (fr_5580 _ (by first | omega | (dsimp only; omega))) (fr_5580 _ (by first | omega | (dsimp only; omega)))
                        have k_5595 : MPo I_5577 o := k_5563.fr (kp_5581 8 rfl) (kp_5581 9 rfl)
                        have k_5596 : MTk I_5577 o := k_5564.fr (kp_5581 6 rfl) (kp_5581 7 rfl) (kp_5581 8 rfl)
                        have k_5597 : EX 0 1 1 f0 1 I_5577 o := by have z := EX.push k_5561 (v := 7) (s := 0) (dB := 1) (dO := 0) (wt' := 1) (by decide) (by decide) (by decide) (by omega) ⟨by decide, by decide⟩ ⟨fun h => absurd h (by decide), fun h => absurd h (by decide)⟩ (Or.inl rfl) (fr_5580 _ (by first | omega | (dsimp only; omega))) (fr_5580 _ (by first | omega | (dsimp only; omega))) (fr_5580 _ (by first | omega | (dsimp only; omega))) u_5574 u_5575 (kp_5581 3 rfl) (kp_5581 6 rfl) (kp_5581 44 rfl) (kp_5581 45 rfl) (kp_5581 47 rfl) u_5576; exact EX.chg (b' := 1) z rfl rfl rfl rfl rfl rfl rfl rfl rfl rfl (by omega) z.pl
                        have g_5598 : (0 : Int) ≤ (I_5577 o 47).toInt ∧ (I_5577 o 47).toInt ≤ 7 := hR_5579.at0 ra 47 (by decide)
                        have a_5599 : ((I_5577 o 47) + 1).toInt = (I_5577 o 47).toInt + (1 : Int32).toInt := tAdd (by omega) (by omega)
                        refine fun I_5600 e_5601 => ?_
                        have hR_5602 : RI R I_5600 := hR_5579.up0 (k := 47) ra (by decide) (Or.inr hz57) e_5601 (show (0 : Int) ≤ ((I_5577 o 47) + 1).toInt by omega) (show ((I_5577 o 47) + 1).toInt ≤ (7 : Int) by omega)
                        have hf_5603 : Fm (fun c => c = o ∨ (o + 30 ≤ c ∧ c < o + 34)) I0 I_5600 := hf_5582.set (by first | rfl | omega | (dsimp only; omega)) e_5601
                        have t_5604 : (I_5600 o 3).toInt = (I_5577 o 3).toInt := by rw [← e_5601, q_u_k (by decide)]
                        have t_5605 : (I_5600 o 4).toInt = (I_5577 o 4).toInt := by rw [← e_5601, q_u_k (by decide)]
                        have t_5606 : (I_5600 o 6).toInt = (I_5577 o 6).toInt := by rw [← e_5601, q_u_k (by decide)]
                        have t_5607 : (I_5600 o 7).toInt = (I_5577 o 7).toInt := by rw [← e_5601, q_u_k (by decide)]
                        have t_5608 : (I_5600 o 8).toInt = (I_5577 o 8).toInt := by rw [← e_5601, q_u_k (by decide)]
                        have t_5609 : (I_5600 o 9).toInt = (I_5577 o 9).toInt := by rw [← e_5601, q_u_k (by decide)]
                        have t_5610 : (I_5600 o 44).toInt = (I_5577 o 44).toInt := by rw [← e_5601, q_u_k (by decide)]
                        have t_5611 : (I_5600 o 45).toInt = (I_5577 o 45).toInt := by rw [← e_5601, q_u_k (by decide)]
                        have t_5612 : (I_5600 o 47).toInt = ((I_5577 o 47) + 1).toInt := by rw [← e_5601, q_u_at]
                        have t_5613 : (I_5600 o 48).toInt = (I_5577 o 48).toInt := by rw [← e_5601, q_u_k (by decide)]
                        have t_5614 : (I_5600 o 46).toInt = (I_5577 o 46).toInt := by rw [← e_5601, q_u_k (by decide)]
                        have k_5615 : MTd I_5600 o := k_5594.fr (by rw [← e_5601]; exact q_u_ne (by omega)) (by rw [← e_5601]; exact q_u_ne (by omega)) (by rw [← e_5601]; exact q_u_ne (by omega))
                        have k_5616 : MPo I_5600 o := k_5595.fr (by rw [← e_5601, q_u_k (by decide)]) (by rw [← e_5601, q_u_k (by decide)])
                        have k_5617 : MTk I_5600 o := k_5596.fr (by rw [← e_5601, q_u_k (by decide)]) (by rw [← e_5601, q_u_k (by decide)]) (by rw [← e_5601, q_u_k (by decide)])
                        have tk := k_5617.2 (by omega)
                        have k_5619 : EX 0 0 1 f0 1 I_5600 o := by exact EX.put47 k_5597 e_5601 (by omega)
                        refine y_Model_next hok hw ra hz16 hz17 hz18 hz19 (by first | omega | (intro h; omega) | exact Or.inl rfl | exact Or.inr rfl) hR_5602 (fun I_5629 L_5630 hR_5631 fr_5632 kp_5633 u_5621 u_5622 u_5623 u_5624 u_5625 u_5626 u_5627 u_5628 => ⟨I_5629, L_5630, rfl, rfl, ?_⟩)
                        have hf_5634 : Fm (fun c => c = o ∨ (o + 30 ≤ c ∧ c < o + 34)) I0 I_5629 := hf_5603.call fr_5632 (fun c hc => by first | exact hc | (dsimp only at hc ⊢; omega) | omega)
                        have t_5635 : (I_5629 o 3).toInt = (I_5600 o 3).toInt := by rw [kp_5633 3 rfl]
                        have t_5636 : (I_5629 o 4).toInt = (I_5600 o 4).toInt := by rw [kp_5633 4 rfl]
                        have g_5637 : (0 : Int) ≤ (I_5629 o 6).toInt ∧ (I_5629 o 6).toInt ≤ 1600 := hR_5631.at0 ra 6 (by decide)
                        have g_5638 : (0 : Int) ≤ (I_5629 o 7).toInt ∧ (I_5629 o 7).toInt ≤ 1601 := hR_5631.at0 ra 7 (by decide)
                        have g_5639 : (0 : Int) ≤ (I_5629 o 8).toInt ∧ (I_5629 o 8).toInt ≤ 6 := hR_5631.at0 ra 8 (by decide)
                        have t_5640 : (I_5629 o 44).toInt = (I_5600 o 44).toInt := by rw [kp_5633 44 rfl]
                        have t_5641 : (I_5629 o 45).toInt = (I_5600 o 45).toInt := by rw [kp_5633 45 rfl]
                        have t_5642 : (I_5629 o 47).toInt = (I_5600 o 47).toInt := by rw [kp_5633 47 rfl]
                        have t_5643 : (I_5629 o 48).toInt = (I_5600 o 48).toInt := by rw [kp_5633 48 rfl]
                        have t_5644 : (I_5629 o 46).toInt = (I_5600 o 46).toInt := by rw [kp_5633 46 rfl]
                        have k_5645 : MTd I_5629 o := k_5615.fr (fr_5632 _ (by first | omega | (dsimp only; omega))) (fr_5632 _ (by first | omega | (dsimp only; omega))) (fr_5632 _ (by first | omega | (dsimp only; omega)))
                        have ms := u_5624 (by omega)
                        have k_5646 : EX 0 0 0 f0 1 I_5629 o := by exact EX.nx k_5619 (fr_5632 _ (by first | omega | (dsimp only; omega))) (fr_5632 _ (by first | omega | (dsimp only; omega))) (fr_5632 _ (by first | omega | (dsimp only; omega))) (fr_5632 _ (by first | omega | (dsimp only; omega))) (fr_5632 _ (by first | omega | (dsimp only; omega))) (kp_5633 3 rfl) (kp_5633 44 rfl) (kp_5633 45 rfl) (kp_5633 47 rfl) (kp_5633 48 rfl) (by omega) (by omega)
                        exact (hp _ _ _ hR_5631 hf_5634 (Or.inr rfl) (by first | omega | (intro h; omega) | exact Or.inl rfl | exact Or.inr rfl) (by first | omega | (intro h; omega) | exact Or.inl rfl | exact Or.inr rfl) (by first | omega | (intro h; omega) | exact Or.inl rfl | exact Or.inr rfl) (by first | omega | (intro h; omega) | exact Or.inl rfl | exact Or.inr rfl) (by first | omega | (intro h; omega) | exact Or.inl rfl | exact Or.inr rfl) (by first | (intro h; exfalso; omega) | exact fun _ => k_5646 | exact fun _ => (False.elim (by omega))) k_5645 u_5627 u_5628)
                      · have d_5647 := iEq c_5570
                        have i_5648 := u_5568 (by omega)
                        exact (hp _ _ _ hR_5546 hf_5549 (Or.inr rfl) (by first | omega | (intro h; omega) | exact Or.inl rfl | exact Or.inr rfl) (by first | omega | (intro h; omega) | exact Or.inl rfl | exact Or.inr rfl) (by first | omega | (intro h; omega) | exact Or.inl rfl | exact Or.inr rfl) (by first | omega | (intro h; omega) | exact Or.inl rfl | exact Or.inr rfl) (by first | omega | (intro h; omega) | exact Or.inl rfl | exact Or.inr rfl) (by first | (intro h; exfalso; omega) | exact fun _ => k_5561 | exact fun _ => (False.elim (by omega))) k_5562 k_5563 k_5564)
                · have d_5649 := iEq c_5249
                  have i_5650 := u_5247 (by omega)
                  exact (hp _ _ _ hR_5210 hf_5213 (Or.inr rfl) (by first | omega | (intro h; omega) | exact Or.inl rfl | exact Or.inr rfl) (by first | omega | (intro h; omega) | exact Or.inl rfl | exact Or.inr rfl) (by first | omega | (intro h; omega) | exact Or.inl rfl | exact Or.inr rfl) (by first | omega | (intro h; omega) | exact Or.inl rfl | exact Or.inr rfl) (by first | omega | (intro h; omega) | exact Or.inl rfl | exact Or.inr rfl) (by first | (intro h; exfalso; omega) | exact fun _ => k_5224 | exact fun _ => (False.elim (by omega))) k_5225 k_5226 k_5227)
              · have d_5651 := iEq c_5242
                unfold fModel_unit_140
                refine y_Model_wrong hok hw ra hz14 hz15 hR_5210 (fun I_5655 L_5656 hR_5657 fr_5658 kp_5659 u_5653 u_5654 => ⟨I_5655, L_5656, rfl, rfl, ?_⟩)
                have hf_5660 : Fm (fun c => c = o ∨ (o + 30 ≤ c ∧ c < o + 34)) I0 I_5655 := hf_5213.call fr_5658 (fun c hc => by first | exact hc | (dsimp only at hc ⊢; omega) | omega)
                have t_5661 : (I_5655 o 3).toInt = (I_5208 o 3).toInt := by rw [kp_5659 3 rfl]
                have g_5662 : (0 : Int) ≤ (I_5655 o 4).toInt ∧ (I_5655 o 4).toInt ≤ 5 := hR_5657.at0 ra 4 (by decide)
                have t_5663 : (I_5655 o 6).toInt = (I_5208 o 6).toInt := by rw [kp_5659 6 rfl]
                have t_5664 : (I_5655 o 7).toInt = (I_5208 o 7).toInt := by rw [kp_5659 7 rfl]
                have t_5665 : (I_5655 o 8).toInt = (I_5208 o 8).toInt := by rw [kp_5659 8 rfl]
                have t_5666 : (I_5655 o 9).toInt = (I_5208 o 9).toInt := by rw [kp_5659 9 rfl]
                have t_5667 : (I_5655 o 44).toInt = (I_5208 o 44).toInt := by rw [kp_5659 44 rfl]
                have t_5668 : (I_5655 o 45).toInt = (I_5208 o 45).toInt := by rw [kp_5659 45 rfl]
                have t_5669 : (I_5655 o 47).toInt = (I_5208 o 47).toInt := by rw [kp_5659 47 rfl]
                have t_5670 : (I_5655 o 48).toInt = (I_5208 o 48).toInt := by rw [kp_5659 48 rfl]
                have t_5671 : (I_5655 o 46).toInt = (I_5208 o 46).toInt := by rw [kp_5659 46 rfl]
                have k_5672 : EX 0 0 0 f0 1 I_5655 o := k_5224.fr (fr_5658 _ (by first | omega | (dsimp only; omega))) (fr_5658 _ (by first | omega | (dsimp only; omega))) (fr_5658 _ (by first | omega | (dsimp only; omega))) (fr_5658 _ (by first | omega | (dsimp only; omega))) (fr_5658 _ (by first | omega | (dsimp only; omega))) (kp_5659 3 rfl) (kp_5659 6 rfl) (kp_5659 44 rfl) (kp_5659 45 rfl) (kp_5659 47 rfl) (kp_5659 48 rfl)
                have k_5673 : MTd I_5655 o := k_5225.fr (fr_5658 _ (by first | omega | (dsimp only; omega))) (fr_5658 _ (by first | omega | (dsimp only; omega))) (fr_5658 _ (by first | omega | (dsimp only; omega)))
                have k_5674 : MPo I_5655 o := k_5226.fr (kp_5659 8 rfl) (kp_5659 9 rfl)
                have k_5675 : MTk I_5655 o := k_5227.fr (kp_5659 6 rfl) (kp_5659 7 rfl) (kp_5659 8 rfl)
                refine y_Model_isGood hok hw ra hR_5657 (fun r_5676 u_5677 u_5678 u_5679 => ⟨r_5676, I_5655, L_5656, rfl, rfl, ?_⟩)
                have b_5680 : 0 ≤ r_5676.toInt ∧ r_5676.toInt ≤ 1 := u_5677.rg
                refine ⟨fun c_5681 => ?_, fun c_5681 => ?_⟩
                · have d_5682 := iNe c_5681
                  have i_5683 := u_5678 (by omega)
                  have g_5684 : (0 : Int) ≤ (I_5655 o 46).toInt ∧ (I_5655 o 46).toInt ≤ 100 := hR_5657.at0 ra 46 (by decide)
                  have a_5685 : ((I_5655 o 46) + 1).toInt = (I_5655 o 46).toInt + (1 : Int32).toInt := tAdd (by omega) (by omega)
                  refine fun I_5686 e_5687 => ?_
                  have hR_5688 : RI R I_5686 := hR_5657.up0 (k := 46) ra (by decide) (Or.inr hz56) e_5687 (show (0 : Int) ≤ ((I_5655 o 46) + 1).toInt by omega) (show ((I_5655 o 46) + 1).toInt ≤ (100 : Int) by omega)
                  have hf_5689 : Fm (fun c => c = o ∨ (o + 30 ≤ c ∧ c < o + 34)) I0 I_5686 := hf_5660.set (by first | rfl | omega | (dsimp only; omega)) e_5687
                  have t_5690 : (I_5686 o 3).toInt = (I_5655 o 3).toInt := by rw [← e_5687, q_u_k (by decide)]
                  have t_5691 : (I_5686 o 4).toInt = (I_5655 o 4).toInt := by rw [← e_5687, q_u_k (by decide)]
                  have t_5692 : (I_5686 o 6).toInt = (I_5655 o 6).toInt := by rw [← e_5687, q_u_k (by decide)]
                  have t_5693 : (I_5686 o 7).toInt = (I_5655 o 7).toInt := by rw [← e_5687, q_u_k (by decide)]
                  have t_5694 : (I_5686 o 8).toInt = (I_5655 o 8).toInt := by rw [← e_5687, q_u_k (by decide)]
                  have t_5695 : (I_5686 o 9).toInt = (I_5655 o 9).toInt := by rw [← e_5687, q_u_k (by decide)]
                  have t_5696 : (I_5686 o 44).toInt = (I_5655 o 44).toInt := by rw [← e_5687, q_u_k (by decide)]
                  have t_5697 : (I_5686 o 45).toInt = (I_5655 o 45).toInt := by rw [← e_5687, q_u_k (by decide)]
                  have t_5698 : (I_5686 o 47).toInt = (I_5655 o 47).toInt := by rw [← e_5687, q_u_k (by decide)]
                  have t_5699 : (I_5686 o 48).toInt = (I_5655 o 48).toInt := by rw [← e_5687, q_u_k (by decide)]
                  have t_5700 : (I_5686 o 46).toInt = ((I_5655 o 46) + 1).toInt := by rw [← e_5687, q_u_at]
                  have k_5701 : EX 0 0 0 f0 1 I_5686 o := k_5672.fr (by rw [← e_5687]; exact q_u_ne (by omega)) (by rw [← e_5687]; exact q_u_ne (by omega)) (by rw [← e_5687]; exact q_u_ne (by omega)) (by rw [← e_5687]; exact q_u_ne (by omega)) (by rw [← e_5687]; exact q_u_ne (by omega)) (by rw [← e_5687, q_u_k (by decide)]) (by rw [← e_5687, q_u_k (by decide)]) (by rw [← e_5687, q_u_k (by decide)]) (by rw [← e_5687, q_u_k (by decide)]) (by rw [← e_5687, q_u_k (by decide)]) (by rw [← e_5687, q_u_k (by decide)])
                  have k_5702 : MTd I_5686 o := k_5673.fr (by rw [← e_5687]; exact q_u_ne (by omega)) (by rw [← e_5687]; exact q_u_ne (by omega)) (by rw [← e_5687]; exact q_u_ne (by omega))
                  have k_5703 : MPo I_5686 o := k_5674.fr (by rw [← e_5687, q_u_k (by decide)]) (by rw [← e_5687, q_u_k (by decide)])
                  have k_5704 : MTk I_5686 o := k_5675.fr (by rw [← e_5687, q_u_k (by decide)]) (by rw [← e_5687, q_u_k (by decide)]) (by rw [← e_5687, q_u_k (by decide)])
                  have l_5705 : (40 : Int32).toInt = 40 := rfl
                  refine y_Model_is hok hw ra hR_5688 (fun r_5706 u_5707 u_5708 u_5709 => ⟨r_5706, I_5686, L_5656, rfl, rfl, ?_⟩)
                  have b_5710 : 0 ≤ r_5706.toInt ∧ r_5706.toInt ≤ 1 := u_5707.rg
                  refine ⟨fun c_5711 => ?_, fun c_5711 => ?_⟩
                  · have d_5712 := iEq c_5711
                    have cd := k_5701.cod
                    have tk := k_5704.2 (by omega)
                    refine ⟨fun c_5713 => ?_, fun c_5713 => ?_⟩
                    · have d_5714 := iNe c_5713
                      have i_5715 := u_5205 (by omega)
                      have i_5716 := u_5206 (by omega)
                      unfold fModel_unit_228
                      refine ⟨fun c_5717 => ?_, fun c_5717 => ?_⟩
                      · have d_5718 := iNe c_5717
                        have i_5719 := u_5205 (by omega)
                        have i_5720 := u_5206 (by omega)
                        refine y_Model_step hok hw ra hz55 (by first | omega | (intro h; omega) | exact Or.inl rfl | exact Or.inr rfl) (by first | omega | (intro h; omega) | exact Or.inl rfl | exact Or.inr rfl) hR_5688 (fun I_5724 L_5725 hR_5726 fr_5727 kp_5728 u_5722 u_5723 => ⟨I_5724, L_5725, rfl, rfl, ?_⟩)
                        have hf_5729 : Fm (fun c => c = o ∨ (o + 30 ≤ c ∧ c < o + 34)) I0 I_5724 := hf_5689.call fr_5727 (fun c hc => by first | exact hc | (dsimp only at hc ⊢; omega) | omega)
                        have t_5730 : (I_5724 o 3).toInt = (I_5686 o 3).toInt := by rw [kp_5728 3 rfl]
                        have t_5731 : (I_5724 o 4).toInt = (I_5686 o 4).toInt := by rw [kp_5728 4 rfl]
                        have t_5732 : (I_5724 o 6).toInt = (I_5686 o 6).toInt := by rw [kp_5728 6 rfl]
                        have t_5733 : (I_5724 o 7).toInt = (I_5686 o 7).toInt := by rw [kp_5728 7 rfl]
                        have t_5734 : (I_5724 o 8).toInt = (I_5686 o 8).toInt := by rw [kp_5728 8 rfl]
                        have t_5735 : (I_5724 o 9).toInt = (I_5686 o 9).toInt := by rw [kp_5728 9 rfl]
                        have t_5736 : (I_5724 o 44).toInt = (I_5686 o 44).toInt := by rw [kp_5728 44 rfl]
                        have g_5737 : (0 : Int) ≤ (I_5724 o 45).toInt ∧ (I_5724 o 45).toInt ≤ 700 := hR_5726.at0 ra 45 (by decide)
                        have t_5738 : (I_5724 o 47).toInt = (I_5686 o 47).toInt := by rw [kp_5728 47 rfl]
                        have t_5739 : (I_5724 o 48).toInt = (I_5686 o 48).toInt := by rw [kp_5728 48 rfl]
                        have t_5740 : (I_5724 o 46).toInt = (I_5686 o 46).toInt := by rw [kp_5728 46 rfl]
                        have k_5741 : MPo I_5724 o := k_5703.fr (kp_5728 8 rfl) (kp_5728 9 rfl)
                        have k_5742 : MTk I_5724 o := k_5704.fr (kp_5728 6 rfl) (kp_5728 7 rfl) (kp_5728 8 rfl)
                        have tk := k_5742.2 (by omega)
                        have k_5743 : EX 0 0 1 f0 0 I_5724 o := by exact EX.step1 k_5701 (by first | exact u_5205 (by omega) | (unfold isT; decide)) (by omega) (fr_5727 _ (by first | omega | (dsimp only; omega))) (fr_5727 _ (by first | omega | (dsimp only; omega))) u_5722 (fr_5727 _ (by first | omega | (dsimp only; omega))) (fr_5727 _ (by first | omega | (dsimp only; omega))) (kp_5728 3 rfl) (kp_5728 6 rfl) (kp_5728 44 rfl) u_5723 (kp_5728 47 rfl) (kp_5728 48 rfl)
                        have k_5744 : MTd I_5724 o := by exact MTd.step k_5702 (fr_5727 _ (by first | omega | (dsimp only; omega))) (fr_5727 _ (by first | omega | (dsimp only; omega))) u_5722 (by omega)
                        refine y_Model_next hok hw ra hz16 hz17 hz18 hz19 (by first | omega | (intro h; omega) | exact Or.inl rfl | exact Or.inr rfl) hR_5726 (fun I_5754 L_5755 hR_5756 fr_5757 kp_5758 u_5746 u_5747 u_5748 u_5749 u_5750 u_5751 u_5752 u_5753 => ⟨I_5754, L_5755, rfl, rfl, ?_⟩)
                        have hf_5759 : Fm (fun c => c = o ∨ (o + 30 ≤ c ∧ c < o + 34)) I0 I_5754 := hf_5729.call fr_5757 (fun c hc => by first | exact hc | (dsimp only at hc ⊢; omega) | omega)
                        have t_5760 : (I_5754 o 3).toInt = (I_5724 o 3).toInt := by rw [kp_5758 3 rfl]
                        have t_5761 : (I_5754 o 4).toInt = (I_5724 o 4).toInt := by rw [kp_5758 4 rfl]
                        have g_5762 : (0 : Int) ≤ (I_5754 o 6).toInt ∧ (I_5754 o 6).toInt ≤ 1600 := hR_5756.at0 ra 6 (by decide)
                        have g_5763 : (0 : Int) ≤ (I_5754 o 7).toInt ∧ (I_5754 o 7).toInt ≤ 1601 := hR_5756.at0 ra 7 (by decide)
                        have g_5764 : (0 : Int) ≤ (I_5754 o 8).toInt ∧ (I_5754 o 8).toInt ≤ 6 := hR_5756.at0 ra 8 (by decide)
                        have t_5765 : (I_5754 o 44).toInt = (I_5724 o 44).toInt := by rw [kp_5758 44 rfl]
                        have t_5766 : (I_5754 o 45).toInt = (I_5724 o 45).toInt := by rw [kp_5758 45 rfl]
                        have t_5767 : (I_5754 o 47).toInt = (I_5724 o 47).toInt := by rw [kp_5758 47 rfl]
                        have t_5768 : (I_5754 o 48).toInt = (I_5724 o 48).toInt := by rw [kp_5758 48 rfl]
                        have t_5769 : (I_5754 o 46).toInt = (I_5724 o 46).toInt := by rw [kp_5758 46 rfl]
                        have k_5770 : MTd I_5754 o := k_5744.fr (fr_5757 _ (by first | omega | (dsimp only; omega))) (fr_5757 _ (by first | omega | (dsimp only; omega))) (fr_5757 _ (by first | omega | (dsimp only; omega)))
                        have ms := u_5749 (by omega)
                        have k_5771 : EX 0 0 0 f0 0 I_5754 o := by exact EX.nx k_5743 (fr_5757 _ (by first | omega | (dsimp only; omega))) (fr_5757 _ (by first | omega | (dsimp only; omega))) (fr_5757 _ (by first | omega | (dsimp only; omega))) (fr_5757 _ (by first | omega | (dsimp only; omega))) (fr_5757 _ (by first | omega | (dsimp only; omega))) (kp_5758 3 rfl) (kp_5758 44 rfl) (kp_5758 45 rfl) (kp_5758 47 rfl) (kp_5758 48 rfl) (by omega) (by omega)
                        exact (hp _ _ _ hR_5756 hf_5759 (Or.inl rfl) (by first | omega | (intro h; omega) | exact Or.inl rfl | exact Or.inr rfl) (by first | omega | (intro h; omega) | exact Or.inl rfl | exact Or.inr rfl) (by first | omega | (intro h; omega) | exact Or.inl rfl | exact Or.inr rfl) (by first | omega | (intro h; omega) | exact Or.inl rfl | exact Or.inr rfl) (by first | omega | (intro h; omega) | exact Or.inl rfl | exact Or.inr rfl) (by first | (intro h; exfalso; omega) | exact fun _ => (False.elim (by omega)) | exact fun _ => k_5771) k_5770 u_5752 u_5753)
                      · have d_5772 := iEq c_5717
                        refine y_Model_step hok hw ra hz55 (by first | omega | (intro h; omega) | exact Or.inl rfl | exact Or.inr rfl) (by first | omega | (intro h; omega) | exact Or.inl rfl | exact Or.inr rfl) hR_5688 (fun I_5776 L_5777 hR_5778 fr_5779 kp_5780 u_5774 u_5775 => ⟨I_5776, L_5777, rfl, rfl, ?_⟩)
                        have hf_5781 : Fm (fun c => c = o ∨ (o + 30 ≤ c ∧ c < o + 34)) I0 I_5776 := hf_5689.call fr_5779 (fun c hc => by first | exact hc | (dsimp only at hc ⊢; omega) | omega)
                        have t_5782 : (I_5776 o 3).toInt = (I_5686 o 3).toInt := by rw [kp_5780 3 rfl]
                        have t_5783 : (I_5776 o 4).toInt = (I_5686 o 4).toInt := by rw [kp_5780 4 rfl]
                        have t_5784 : (I_5776 o 6).toInt = (I_5686 o 6).toInt := by rw [kp_5780 6 rfl]
                        have t_5785 : (I_5776 o 7).toInt = (I_5686 o 7).toInt := by rw [kp_5780 7 rfl]
                        have t_5786 : (I_5776 o 8).toInt = (I_5686 o 8).toInt := by rw [kp_5780 8 rfl]
                        have t_5787 : (I_5776 o 9).toInt = (I_5686 o 9).toInt := by rw [kp_5780 9 rfl]
                        have t_5788 : (I_5776 o 44).toInt = (I_5686 o 44).toInt := by rw [kp_5780 44 rfl]
                        have g_5789 : (0 : Int) ≤ (I_5776 o 45).toInt ∧ (I_5776 o 45).toInt ≤ 700 := hR_5778.at0 ra 45 (by decide)
                        have t_5790 : (I_5776 o 47).toInt = (I_5686 o 47).toInt := by rw [kp_5780 47 rfl]
                        have t_5791 : (I_5776 o 48).toInt = (I_5686 o 48).toInt := by rw [kp_5780 48 rfl]
                        have t_5792 : (I_5776 o 46).toInt = (I_5686 o 46).toInt := by rw [kp_5780 46 rfl]
                        have k_5793 : MPo I_5776 o := k_5703.fr (kp_5780 8 rfl) (kp_5780 9 rfl)
                        have k_5794 : MTk I_5776 o := k_5704.fr (kp_5780 6 rfl) (kp_5780 7 rfl) (kp_5780 8 rfl)
                        have tk := k_5794.2 (by omega)
                        have k_5795 : EX 0 0 1 f0 0 I_5776 o := by exact EX.step1 k_5701 (by first | exact u_5205 (by omega) | (unfold isT; decide)) (by omega) (fr_5779 _ (by first | omega | (dsimp only; omega))) (fr_5779 _ (by first | omega | (dsimp only; omega))) u_5774 (fr_5779 _ (by first | omega | (dsimp only; omega))) (fr_5779 _ (by first | omega | (dsimp only; omega))) (kp_5780 3 rfl) (kp_5780 6 rfl) (kp_5780 44 rfl) u_5775 (kp_5780 47 rfl) (kp_5780 48 rfl)
                        have k_5796 : MTd I_5776 o := by exact MTd.step k_5702 (fr_5779 _ (by first | omega | (dsimp only; omega))) (fr_5779 _ (by first | omega | (dsimp only; omega))) u_5774 (by omega)
                        refine y_Model_next hok hw ra hz16 hz17 hz18 hz19 (by first | omega | (intro h; omega) | exact Or.inl rfl | exact Or.inr rfl) hR_5778 (fun I_5806 L_5807 hR_5808 fr_5809 kp_5810 u_5798 u_5799 u_5800 u_5801 u_5802 u_5803 u_5804 u_5805 => ⟨I_5806, L_5807, rfl, rfl, ?_⟩)
                        have hf_5811 : Fm (fun c => c = o ∨ (o + 30 ≤ c ∧ c < o + 34)) I0 I_5806 := hf_5781.call fr_5809 (fun c hc => by first | exact hc | (dsimp only at hc ⊢; omega) | omega)
                        have t_5812 : (I_5806 o 3).toInt = (I_5776 o 3).toInt := by rw [kp_5810 3 rfl]
                        have t_5813 : (I_5806 o 4).toInt = (I_5776 o 4).toInt := by rw [kp_5810 4 rfl]
                        have g_5814 : (0 : Int) ≤ (I_5806 o 6).toInt ∧ (I_5806 o 6).toInt ≤ 1600 := hR_5808.at0 ra 6 (by decide)
                        have g_5815 : (0 : Int) ≤ (I_5806 o 7).toInt ∧ (I_5806 o 7).toInt ≤ 1601 := hR_5808.at0 ra 7 (by decide)
                        have g_5816 : (0 : Int) ≤ (I_5806 o 8).toInt ∧ (I_5806 o 8).toInt ≤ 6 := hR_5808.at0 ra 8 (by decide)
                        have t_5817 : (I_5806 o 44).toInt = (I_5776 o 44).toInt := by rw [kp_5810 44 rfl]
                        have t_5818 : (I_5806 o 45).toInt = (I_5776 o 45).toInt := by rw [kp_5810 45 rfl]
                        have t_5819 : (I_5806 o 47).toInt = (I_5776 o 47).toInt := by rw [kp_5810 47 rfl]
                        have t_5820 : (I_5806 o 48).toInt = (I_5776 o 48).toInt := by rw [kp_5810 48 rfl]
                        have t_5821 : (I_5806 o 46).toInt = (I_5776 o 46).toInt := by rw [kp_5810 46 rfl]
                        have k_5822 : MTd I_5806 o := k_5796.fr (fr_5809 _ (by first | omega | (dsimp only; omega))) (fr_5809 _ (by first | omega | (dsimp only; omega))) (fr_5809 _ (by first | omega | (dsimp only; omega)))
                        have ms := u_5801 (by omega)
                        have k_5823 : EX 0 0 0 f0 0 I_5806 o := by exact EX.nx k_5795 (fr_5809 _ (by first | omega | (dsimp only; omega))) (fr_5809 _ (by first | omega | (dsimp only; omega))) (fr_5809 _ (by first | omega | (dsimp only; omega))) (fr_5809 _ (by first | omega | (dsimp only; omega))) (fr_5809 _ (by first | omega | (dsimp only; omega))) (kp_5810 3 rfl) (kp_5810 44 rfl) (kp_5810 45 rfl) (kp_5810 47 rfl) (kp_5810 48 rfl) (by omega) (by omega)
                        exact (hp _ _ _ hR_5808 hf_5811 (Or.inl rfl) (by first | omega | (intro h; omega) | exact Or.inl rfl | exact Or.inr rfl) (by first | omega | (intro h; omega) | exact Or.inl rfl | exact Or.inr rfl) (by first | omega | (intro h; omega) | exact Or.inl rfl | exact Or.inr rfl) (by first | omega | (intro h; omega) | exact Or.inl rfl | exact Or.inr rfl) (by first | omega | (intro h; omega) | exact Or.inl rfl | exact Or.inr rfl) (by first | (intro h; exfalso; omega) | exact fun _ => (False.elim (by omega)) | exact fun _ => k_5823) k_5822 u_5804 u_5805)
                    · have d_5824 := iEq c_5713
                      unfold fModel_unit_228
                      have l_5825 : (78 : Int32).toInt = 78 := rfl
                      refine ⟨fun c_5826 => ?_, fun c_5826 => ?_⟩
                      · have d_5827 := iNe c_5826
                        have i_5828 := u_5205 (by omega)
                        have i_5829 := u_5206 (by omega)
                        exfalso; omega
                      · have d_5830 := iEq c_5826
                        refine y_Model_step hok hw ra hz55 (by first | omega | (intro h; omega) | exact Or.inl rfl | exact Or.inr rfl) (by first | omega | (intro h; omega) | exact Or.inl rfl | exact Or.inr rfl) hR_5688 (fun I_5834 L_5835 hR_5836 fr_5837 kp_5838 u_5832 u_5833 => ⟨I_5834, L_5835, rfl, rfl, ?_⟩)
                        have hf_5839 : Fm (fun c => c = o ∨ (o + 30 ≤ c ∧ c < o + 34)) I0 I_5834 := hf_5689.call fr_5837 (fun c hc => by first | exact hc | (dsimp only at hc ⊢; omega) | omega)
                        have t_5840 : (I_5834 o 3).toInt = (I_5686 o 3).toInt := by rw [kp_5838 3 rfl]
                        have t_5841 : (I_5834 o 4).toInt = (I_5686 o 4).toInt := by rw [kp_5838 4 rfl]
                        have t_5842 : (I_5834 o 6).toInt = (I_5686 o 6).toInt := by rw [kp_5838 6 rfl]
                        have t_5843 : (I_5834 o 7).toInt = (I_5686 o 7).toInt := by rw [kp_5838 7 rfl]
                        have t_5844 : (I_5834 o 8).toInt = (I_5686 o 8).toInt := by rw [kp_5838 8 rfl]
                        have t_5845 : (I_5834 o 9).toInt = (I_5686 o 9).toInt := by rw [kp_5838 9 rfl]
                        have t_5846 : (I_5834 o 44).toInt = (I_5686 o 44).toInt := by rw [kp_5838 44 rfl]
                        have g_5847 : (0 : Int) ≤ (I_5834 o 45).toInt ∧ (I_5834 o 45).toInt ≤ 700 := hR_5836.at0 ra 45 (by decide)
                        have t_5848 : (I_5834 o 47).toInt = (I_5686 o 47).toInt := by rw [kp_5838 47 rfl]
                        have t_5849 : (I_5834 o 48).toInt = (I_5686 o 48).toInt := by rw [kp_5838 48 rfl]
                        have t_5850 : (I_5834 o 46).toInt = (I_5686 o 46).toInt := by rw [kp_5838 46 rfl]
                        have k_5851 : MPo I_5834 o := k_5703.fr (kp_5838 8 rfl) (kp_5838 9 rfl)
                        have k_5852 : MTk I_5834 o := k_5704.fr (kp_5838 6 rfl) (kp_5838 7 rfl) (kp_5838 8 rfl)
                        have tk := k_5852.2 (by omega)
                        have k_5853 : EX 0 0 1 f0 0 I_5834 o := by exact EX.step1 k_5701 (by first | exact u_5205 (by omega) | (unfold isT; decide)) (by omega) (fr_5837 _ (by first | omega | (dsimp only; omega))) (fr_5837 _ (by first | omega | (dsimp only; omega))) u_5832 (fr_5837 _ (by first | omega | (dsimp only; omega))) (fr_5837 _ (by first | omega | (dsimp only; omega))) (kp_5838 3 rfl) (kp_5838 6 rfl) (kp_5838 44 rfl) u_5833 (kp_5838 47 rfl) (kp_5838 48 rfl)
                        have k_5854 : MTd I_5834 o := by exact MTd.step k_5702 (fr_5837 _ (by first | omega | (dsimp only; omega))) (fr_5837 _ (by first | omega | (dsimp only; omega))) u_5832 (by omega)
                        refine y_Model_next hok hw ra hz16 hz17 hz18 hz19 (by first | omega | (intro h; omega) | exact Or.inl rfl | exact Or.inr rfl) hR_5836 (fun I_5864 L_5865 hR_5866 fr_5867 kp_5868 u_5856 u_5857 u_5858 u_5859 u_5860 u_5861 u_5862 u_5863 => ⟨I_5864, L_5865, rfl, rfl, ?_⟩)
                        have hf_5869 : Fm (fun c => c = o ∨ (o + 30 ≤ c ∧ c < o + 34)) I0 I_5864 := hf_5839.call fr_5867 (fun c hc => by first | exact hc | (dsimp only at hc ⊢; omega) | omega)
                        have t_5870 : (I_5864 o 3).toInt = (I_5834 o 3).toInt := by rw [kp_5868 3 rfl]
                        have t_5871 : (I_5864 o 4).toInt = (I_5834 o 4).toInt := by rw [kp_5868 4 rfl]
                        have g_5872 : (0 : Int) ≤ (I_5864 o 6).toInt ∧ (I_5864 o 6).toInt ≤ 1600 := hR_5866.at0 ra 6 (by decide)
                        have g_5873 : (0 : Int) ≤ (I_5864 o 7).toInt ∧ (I_5864 o 7).toInt ≤ 1601 := hR_5866.at0 ra 7 (by decide)
                        have g_5874 : (0 : Int) ≤ (I_5864 o 8).toInt ∧ (I_5864 o 8).toInt ≤ 6 := hR_5866.at0 ra 8 (by decide)
                        have t_5875 : (I_5864 o 44).toInt = (I_5834 o 44).toInt := by rw [kp_5868 44 rfl]
                        have t_5876 : (I_5864 o 45).toInt = (I_5834 o 45).toInt := by rw [kp_5868 45 rfl]
                        have t_5877 : (I_5864 o 47).toInt = (I_5834 o 47).toInt := by rw [kp_5868 47 rfl]
                        have t_5878 : (I_5864 o 48).toInt = (I_5834 o 48).toInt := by rw [kp_5868 48 rfl]
                        have t_5879 : (I_5864 o 46).toInt = (I_5834 o 46).toInt := by rw [kp_5868 46 rfl]
                        have k_5880 : MTd I_5864 o := k_5854.fr (fr_5867 _ (by first | omega | (dsimp only; omega))) (fr_5867 _ (by first | omega | (dsimp only; omega))) (fr_5867 _ (by first | omega | (dsimp only; omega)))
                        have ms := u_5859 (by omega)
                        have k_5881 : EX 0 0 0 f0 0 I_5864 o := by exact EX.nx k_5853 (fr_5867 _ (by first | omega | (dsimp only; omega))) (fr_5867 _ (by first | omega | (dsimp only; omega))) (fr_5867 _ (by first | omega | (dsimp only; omega))) (fr_5867 _ (by first | omega | (dsimp only; omega))) (fr_5867 _ (by first | omega | (dsimp only; omega))) (kp_5868 3 rfl) (kp_5868 44 rfl) (kp_5868 45 rfl) (kp_5868 47 rfl) (kp_5868 48 rfl) (by omega) (by omega)
                        exact (hp _ _ _ hR_5866 hf_5869 (Or.inl rfl) (by first | omega | (intro h; omega) | exact Or.inl rfl | exact Or.inr rfl) (by first | omega | (intro h; omega) | exact Or.inl rfl | exact Or.inr rfl) (by first | omega | (intro h; omega) | exact Or.inl rfl | exact Or.inr rfl) (by first | omega | (intro h; omega) | exact Or.inl rfl | exact Or.inr rfl) (by first | omega | (intro h; omega) | exact Or.inl rfl | exact Or.inr rfl) (by first | (intro h; exfalso; omega) | exact fun _ => (False.elim (by omega)) | exact fun _ => k_5881) k_5880 u_5862 u_5863)
                  · have d_5882 := iNe c_5711
                    have i_5883 := u_5708 (by omega)
                    have i_5884 := u_5709 (by omega)
                    have g_5885 : (0 : Int) ≤ (I_5686 o 47).toInt ∧ (I_5686 o 47).toInt ≤ 7 := hR_5688.at0 ra 47 (by decide)
                    refine ⟨fun c_5886 => ?_, fun c_5886 => ?_⟩
                    · have d_5887 := iNe c_5886
                      refine y_Model_isGood hok hw ra hR_5688 (fun r_5888 u_5889 u_5890 u_5891 => ⟨r_5888, I_5686, L_5656, rfl, rfl, ?_⟩)
                      have b_5892 : 0 ≤ r_5888.toInt ∧ r_5888.toInt ≤ 1 := u_5889.rg
                      refine ⟨fun c_5893 => ?_, fun c_5893 => ?_⟩
                      · have d_5894 := iNe c_5893
                        have i_5895 := u_5890 (by omega)
                        refine y_Model_pile hok hw ra hz58 (by first | omega | (intro h; omega) | exact Or.inl rfl | exact Or.inr rfl) (by first | omega | (intro h; omega) | exact Or.inl rfl | exact Or.inr rfl) hR_5688 (fun I_5900 L_5901 hR_5902 fr_5903 kp_5904 u_5897 u_5898 u_5899 => ⟨I_5900, L_5901, rfl, rfl, ?_⟩)
                        have hf_5905 : Fm (fun c => c = o ∨ (o + 30 ≤ c ∧ c < o + 34)) I0 I_5900 := hf_5689.call fr_5903 (fun c hc => by first | exact hc | (dsimp only at hc ⊢; omega) | omega)
                        have t_5906 : (I_5900 o 3).toInt = (I_5686 o 3).toInt := by rw [kp_5904 3 rfl]
                        have t_5907 : (I_5900 o 4).toInt = (I_5686 o 4).toInt := by rw [kp_5904 4 rfl]
                        have t_5908 : (I_5900 o 6).toInt = (I_5686 o 6).toInt := by rw [kp_5904 6 rfl]
                        have t_5909 : (I_5900 o 7).toInt = (I_5686 o 7).toInt := by rw [kp_5904 7 rfl]
                        have t_5910 : (I_5900 o 8).toInt = (I_5686 o 8).toInt := by rw [kp_5904 8 rfl]
                        have t_5911 : (I_5900 o 9).toInt = (I_5686 o 9).toInt := by rw [kp_5904 9 rfl]
                        have t_5912 : (I_5900 o 44).toInt = (I_5686 o 44).toInt := by rw [kp_5904 44 rfl]
                        have t_5913 : (I_5900 o 45).toInt = (I_5686 o 45).toInt := by rw [kp_5904 45 rfl]
                        have t_5914 : (I_5900 o 47).toInt = (I_5686 o 47).toInt := by rw [kp_5904 47 rfl]
                        have g_5915 : (0 : Int) ≤ (I_5900 o 48).toInt ∧ (I_5900 o 48).toInt ≤ 80 := hR_5902.at0 ra 48 (by decide)
                        have t_5916 : (I_5900 o 46).toInt = (I_5686 o 46).toInt := by rw [kp_5904 46 rfl]
                        have k_5917 : MTd I_5900 o := k_5702.fr (fr_5903 _ (by first | omega | (dsimp only; omega))) (fr_5903 _ (by first | omega | (dsimp only; omega))) (fr_5903 _ (by first | omega | (dsimp only; omega)))
                        have k_5918 : MPo I_5900 o := k_5703.fr (kp_5904 8 rfl) (kp_5904 9 rfl)
                        have k_5919 : MTk I_5900 o := k_5704.fr (kp_5904 6 rfl) (kp_5904 7 rfl) (kp_5904 8 rfl)
                        have k_5920 : EX 0 1 1 f0 1 I_5900 o := by have z := EX.push k_5701 (v := 7) (s := 0) (dB := 1) (dO := 0) (wt' := 1) (by decide) (by decide) (by decide) (by omega) ⟨by decide, by decide⟩ ⟨fun h => absurd h (by decide), fun h => absurd h (by decide)⟩ (Or.inl rfl) (fr_5903 _ (by first | omega | (dsimp only; omega))) (fr_5903 _ (by first | omega | (dsimp only; omega))) (fr_5903 _ (by first | omega | (dsimp only; omega))) u_5897 u_5898 (kp_5904 3 rfl) (kp_5904 6 rfl) (kp_5904 44 rfl) (kp_5904 45 rfl) (kp_5904 47 rfl) u_5899; exact EX.chg (b' := 1) z rfl rfl rfl rfl rfl rfl rfl rfl rfl rfl (by omega) z.pl
                        have g_5921 : (0 : Int) ≤ (I_5900 o 47).toInt ∧ (I_5900 o 47).toInt ≤ 7 := hR_5902.at0 ra 47 (by decide)
                        have a_5922 : ((I_5900 o 47) + 1).toInt = (I_5900 o 47).toInt + (1 : Int32).toInt := tAdd (by omega) (by omega)
                        refine fun I_5923 e_5924 => ?_
                        have hR_5925 : RI R I_5923 := hR_5902.up0 (k := 47) ra (by decide) (Or.inr hz57) e_5924 (show (0 : Int) ≤ ((I_5900 o 47) + 1).toInt by omega) (show ((I_5900 o 47) + 1).toInt ≤ (7 : Int) by omega)
                        have hf_5926 : Fm (fun c => c = o ∨ (o + 30 ≤ c ∧ c < o + 34)) I0 I_5923 := hf_5905.set (by first | rfl | omega | (dsimp only; omega)) e_5924
                        have t_5927 : (I_5923 o 3).toInt = (I_5900 o 3).toInt := by rw [← e_5924, q_u_k (by decide)]
                        have t_5928 : (I_5923 o 4).toInt = (I_5900 o 4).toInt := by rw [← e_5924, q_u_k (by decide)]
                        have t_5929 : (I_5923 o 6).toInt = (I_5900 o 6).toInt := by rw [← e_5924, q_u_k (by decide)]
                        have t_5930 : (I_5923 o 7).toInt = (I_5900 o 7).toInt := by rw [← e_5924, q_u_k (by decide)]
                        have t_5931 : (I_5923 o 8).toInt = (I_5900 o 8).toInt := by rw [← e_5924, q_u_k (by decide)]
                        have t_5932 : (I_5923 o 9).toInt = (I_5900 o 9).toInt := by rw [← e_5924, q_u_k (by decide)]
                        have t_5933 : (I_5923 o 44).toInt = (I_5900 o 44).toInt := by rw [← e_5924, q_u_k (by decide)]
                        have t_5934 : (I_5923 o 45).toInt = (I_5900 o 45).toInt := by rw [← e_5924, q_u_k (by decide)]
                        have t_5935 : (I_5923 o 47).toInt = ((I_5900 o 47) + 1).toInt := by rw [← e_5924, q_u_at]
                        have t_5936 : (I_5923 o 48).toInt = (I_5900 o 48).toInt := by rw [← e_5924, q_u_k (by decide)]
                        have t_5937 : (I_5923 o 46).toInt = (I_5900 o 46).toInt := by rw [← e_5924, q_u_k (by decide)]
                        have k_5938 : MTd I_5923 o := k_5917.fr (by rw [← e_5924]; exact q_u_ne (by omega)) (by rw [← e_5924]; exact q_u_ne (by omega)) (by rw [← e_5924]; exact q_u_ne (by omega))
                        have k_5939 : MPo I_5923 o := k_5918.fr (by rw [← e_5924, q_u_k (by decide)]) (by rw [← e_5924, q_u_k (by decide)])
                        have k_5940 : MTk I_5923 o := k_5919.fr (by rw [← e_5924, q_u_k (by decide)]) (by rw [← e_5924, q_u_k (by decide)]) (by rw [← e_5924, q_u_k (by decide)])
                        have tk := k_5940.2 (by omega)
                        have k_5942 : EX 0 0 1 f0 1 I_5923 o := by exact EX.put47 k_5920 e_5924 (by omega)
                        refine y_Model_next hok hw ra hz16 hz17 hz18 hz19 (by first | omega | (intro h; omega) | exact Or.inl rfl | exact Or.inr rfl) hR_5925 (fun I_5952 L_5953 hR_5954 fr_5955 kp_5956 u_5944 u_5945 u_5946 u_5947 u_5948 u_5949 u_5950 u_5951 => ⟨I_5952, L_5953, rfl, rfl, ?_⟩)
                        have hf_5957 : Fm (fun c => c = o ∨ (o + 30 ≤ c ∧ c < o + 34)) I0 I_5952 := hf_5926.call fr_5955 (fun c hc => by first | exact hc | (dsimp only at hc ⊢; omega) | omega)
                        have t_5958 : (I_5952 o 3).toInt = (I_5923 o 3).toInt := by rw [kp_5956 3 rfl]
                        have t_5959 : (I_5952 o 4).toInt = (I_5923 o 4).toInt := by rw [kp_5956 4 rfl]
                        have g_5960 : (0 : Int) ≤ (I_5952 o 6).toInt ∧ (I_5952 o 6).toInt ≤ 1600 := hR_5954.at0 ra 6 (by decide)
                        have g_5961 : (0 : Int) ≤ (I_5952 o 7).toInt ∧ (I_5952 o 7).toInt ≤ 1601 := hR_5954.at0 ra 7 (by decide)
                        have g_5962 : (0 : Int) ≤ (I_5952 o 8).toInt ∧ (I_5952 o 8).toInt ≤ 6 := hR_5954.at0 ra 8 (by decide)
                        have t_5963 : (I_5952 o 44).toInt = (I_5923 o 44).toInt := by rw [kp_5956 44 rfl]
                        have t_5964 : (I_5952 o 45).toInt = (I_5923 o 45).toInt := by rw [kp_5956 45 rfl]
                        have t_5965 : (I_5952 o 47).toInt = (I_5923 o 47).toInt := by rw [kp_5956 47 rfl]
                        have t_5966 : (I_5952 o 48).toInt = (I_5923 o 48).toInt := by rw [kp_5956 48 rfl]
                        have t_5967 : (I_5952 o 46).toInt = (I_5923 o 46).toInt := by rw [kp_5956 46 rfl]
                        have k_5968 : MTd I_5952 o := k_5938.fr (fr_5955 _ (by first | omega | (dsimp only; omega))) (fr_5955 _ (by first | omega | (dsimp only; omega))) (fr_5955 _ (by first | omega | (dsimp only; omega)))
                        have ms := u_5947 (by omega)
                        have k_5969 : EX 0 0 0 f0 1 I_5952 o := by exact EX.nx k_5942 (fr_5955 _ (by first | omega | (dsimp only; omega))) (fr_5955 _ (by first | omega | (dsimp only; omega))) (fr_5955 _ (by first | omega | (dsimp only; omega))) (fr_5955 _ (by first | omega | (dsimp only; omega))) (fr_5955 _ (by first | omega | (dsimp only; omega))) (kp_5956 3 rfl) (kp_5956 44 rfl) (kp_5956 45 rfl) (kp_5956 47 rfl) (kp_5956 48 rfl) (by omega) (by omega)
                        exact (hp _ _ _ hR_5954 hf_5957 (Or.inr rfl) (by first | omega | (intro h; omega) | exact Or.inl rfl | exact Or.inr rfl) (by first | omega | (intro h; omega) | exact Or.inl rfl | exact Or.inr rfl) (by first | omega | (intro h; omega) | exact Or.inl rfl | exact Or.inr rfl) (by first | omega | (intro h; omega) | exact Or.inl rfl | exact Or.inr rfl) (by first | omega | (intro h; omega) | exact Or.inl rfl | exact Or.inr rfl) (by first | (intro h; exfalso; omega) | exact fun _ => k_5969 | exact fun _ => (False.elim (by omega))) k_5968 u_5950 u_5951)
                      · have d_5970 := iEq c_5893
                        have i_5971 := u_5891 (by omega)
                        exact (hp _ _ _ hR_5688 hf_5689 (Or.inr rfl) (by first | omega | (intro h; omega) | exact Or.inl rfl | exact Or.inr rfl) (by first | omega | (intro h; omega) | exact Or.inl rfl | exact Or.inr rfl) (by first | omega | (intro h; omega) | exact Or.inl rfl | exact Or.inr rfl) (by first | omega | (intro h; omega) | exact Or.inl rfl | exact Or.inr rfl) (by first | omega | (intro h; omega) | exact Or.inl rfl | exact Or.inr rfl) (by first | (intro h; exfalso; omega) | exact fun _ => k_5701 | exact fun _ => (False.elim (by omega))) k_5702 k_5703 k_5704)
                    · have d_5972 := iEq c_5886
                      refine y_Model_wrong hok hw ra hz14 hz15 hR_5688 (fun I_5976 L_5977 hR_5978 fr_5979 kp_5980 u_5974 u_5975 => ⟨I_5976, L_5977, rfl, rfl, ?_⟩)
                      have hf_5981 : Fm (fun c => c = o ∨ (o + 30 ≤ c ∧ c < o + 34)) I0 I_5976 := hf_5689.call fr_5979 (fun c hc => by first | exact hc | (dsimp only at hc ⊢; omega) | omega)
                      have t_5982 : (I_5976 o 3).toInt = (I_5686 o 3).toInt := by rw [kp_5980 3 rfl]
                      have g_5983 : (0 : Int) ≤ (I_5976 o 4).toInt ∧ (I_5976 o 4).toInt ≤ 5 := hR_5978.at0 ra 4 (by decide)
                      have t_5984 : (I_5976 o 6).toInt = (I_5686 o 6).toInt := by rw [kp_5980 6 rfl]
                      have t_5985 : (I_5976 o 7).toInt = (I_5686 o 7).toInt := by rw [kp_5980 7 rfl]
                      have t_5986 : (I_5976 o 8).toInt = (I_5686 o 8).toInt := by rw [kp_5980 8 rfl]
                      have t_5987 : (I_5976 o 9).toInt = (I_5686 o 9).toInt := by rw [kp_5980 9 rfl]
                      have t_5988 : (I_5976 o 44).toInt = (I_5686 o 44).toInt := by rw [kp_5980 44 rfl]
                      have t_5989 : (I_5976 o 45).toInt = (I_5686 o 45).toInt := by rw [kp_5980 45 rfl]
                      have t_5990 : (I_5976 o 47).toInt = (I_5686 o 47).toInt := by rw [kp_5980 47 rfl]
                      have t_5991 : (I_5976 o 48).toInt = (I_5686 o 48).toInt := by rw [kp_5980 48 rfl]
                      have t_5992 : (I_5976 o 46).toInt = (I_5686 o 46).toInt := by rw [kp_5980 46 rfl]
                      have k_5993 : EX 0 0 0 f0 1 I_5976 o := k_5701.fr (fr_5979 _ (by first | omega | (dsimp only; omega))) (fr_5979 _ (by first | omega | (dsimp only; omega))) (fr_5979 _ (by first | omega | (dsimp only; omega))) (fr_5979 _ (by first | omega | (dsimp only; omega))) (fr_5979 _ (by first | omega | (dsimp only; omega))) (kp_5980 3 rfl) (kp_5980 6 rfl) (kp_5980 44 rfl) (kp_5980 45 rfl) (kp_5980 47 rfl) (kp_5980 48 rfl)
                      have k_5994 : MTd I_5976 o := k_5702.fr (fr_5979 _ (by first | omega | (dsimp only; omega))) (fr_5979 _ (by first | omega | (dsimp only; omega))) (fr_5979 _ (by first | omega | (dsimp only; omega)))
                      have k_5995 : MPo I_5976 o := k_5703.fr (kp_5980 8 rfl) (kp_5980 9 rfl)
                      have k_5996 : MTk I_5976 o := k_5704.fr (kp_5980 6 rfl) (kp_5980 7 rfl) (kp_5980 8 rfl)
                      refine y_Model_isGood hok hw ra hR_5978 (fun r_5997 u_5998 u_5999 u_6000 => ⟨r_5997, I_5976, L_5977, rfl, rfl, ?_⟩)
                      have b_6001 : 0 ≤ r_5997.toInt ∧ r_5997.toInt ≤ 1 := u_5998.rg
                      refine ⟨fun c_6002 => ?_, fun c_6002 => ?_⟩
                      · have d_6003 := iNe c_6002
                        have i_6004 := u_5999 (by omega)
                        refine y_Model_pile hok hw ra hz58 (by first | omega | (intro h; omega) | exact Or.inl rfl | exact Or.inr rfl) (by first | omega | (intro h; omega) | exact Or.inl rfl | exact Or.inr rfl) hR_5978 (fun I_6009 L_6010 hR_6011 fr_6012 kp_6013 u_6006 u_6007 u_6008 => ⟨I_6009, L_6010, rfl, rfl, ?_⟩)
                        have hf_6014 : Fm (fun c => c = o ∨ (o + 30 ≤ c ∧ c < o + 34)) I0 I_6009 := hf_5981.call fr_6012 (fun c hc => by first | exact hc | (dsimp only at hc ⊢; omega) | omega)
                        have t_6015 : (I_6009 o 3).toInt = (I_5976 o 3).toInt := by rw [kp_6013 3 rfl]
                        have t_6016 : (I_6009 o 4).toInt = (I_5976 o 4).toInt := by rw [kp_6013 4 rfl]
                        have t_6017 : (I_6009 o 6).toInt = (I_5976 o 6).toInt := by rw [kp_6013 6 rfl]
                        have t_6018 : (I_6009 o 7).toInt = (I_5976 o 7).toInt := by rw [kp_6013 7 rfl]
                        have t_6019 : (I_6009 o 8).toInt = (I_5976 o 8).toInt := by rw [kp_6013 8 rfl]
                        have t_6020 : (I_6009 o 9).toInt = (I_5976 o 9).toInt := by rw [kp_6013 9 rfl]
                        have t_6021 : (I_6009 o 44).toInt = (I_5976 o 44).toInt := by rw [kp_6013 44 rfl]
                        have t_6022 : (I_6009 o 45).toInt = (I_5976 o 45).toInt := by rw [kp_6013 45 rfl]
                        have t_6023 : (I_6009 o 47).toInt = (I_5976 o 47).toInt := by rw [kp_6013 47 rfl]
                        have g_6024 : (0 : Int) ≤ (I_6009 o 48).toInt ∧ (I_6009 o 48).toInt ≤ 80 := hR_6011.at0 ra 48 (by decide)
                        have t_6025 : (I_6009 o 46).toInt = (I_5976 o 46).toInt := by rw [kp_6013 46 rfl]
                        have k_6026 : MTd I_6009 o := k_5994.fr (fr_6012 _ (by first | omega | (dsimp only; omega))) (fr_6012 _ (by first | omega | (dsimp only; omega))) (fr_6012 _ (by first | omega | (dsimp only; omega)))
                        have k_6027 : MPo I_6009 o := k_5995.fr (kp_6013 8 rfl) (kp_6013 9 rfl)
                        have k_6028 : MTk I_6009 o := k_5996.fr (kp_6013 6 rfl) (kp_6013 7 rfl) (kp_6013 8 rfl)
                        have k_6029 : EX 0 1 1 f0 1 I_6009 o := by have z := EX.push k_5993 (v := 7) (s := 0) (dB := 1) (dO := 0) (wt' := 1) (by decide) (by decide) (by decide) (by omega) ⟨by decide, by decide⟩ ⟨fun h => absurd h (by decide), fun h => absurd h (by decide)⟩ (Or.inl rfl) (fr_6012 _ (by first | omega | (dsimp only; omega))) (fr_6012 _ (by first | omega | (dsimp only; omega))) (fr_6012 _ (by first | omega | (dsimp only; omega))) u_6006 u_6007 (kp_6013 3 rfl) (kp_6013 6 rfl) (kp_6013 44 rfl) (kp_6013 45 rfl) (kp_6013 47 rfl) u_6008; exact EX.chg (b' := 1) z rfl rfl rfl rfl rfl rfl rfl rfl rfl rfl (by omega) z.pl
                        have g_6030 : (0 : Int) ≤ (I_6009 o 47).toInt ∧ (I_6009 o 47).toInt ≤ 7 := hR_6011.at0 ra 47 (by decide)
                        have a_6031 : ((I_6009 o 47) + 1).toInt = (I_6009 o 47).toInt + (1 : Int32).toInt := tAdd (by omega) (by omega)
                        refine fun I_6032 e_6033 => ?_
                        have hR_6034 : RI R I_6032 := hR_6011.up0 (k := 47) ra (by decide) (Or.inr hz57) e_6033 (show (0 : Int) ≤ ((I_6009 o 47) + 1).toInt by omega) (show ((I_6009 o 47) + 1).toInt ≤ (7 : Int) by omega)
                        have hf_6035 : Fm (fun c => c = o ∨ (o + 30 ≤ c ∧ c < o + 34)) I0 I_6032 := hf_6014.set (by first | rfl | omega | (dsimp only; omega)) e_6033
                        have t_6036 : (I_6032 o 3).toInt = (I_6009 o 3).toInt := by rw [← e_6033, q_u_k (by decide)]
                        have t_6037 : (I_6032 o 4).toInt = (I_6009 o 4).toInt := by rw [← e_6033, q_u_k (by decide)]
                        have t_6038 : (I_6032 o 6).toInt = (I_6009 o 6).toInt := by rw [← e_6033, q_u_k (by decide)]
                        have t_6039 : (I_6032 o 7).toInt = (I_6009 o 7).toInt := by rw [← e_6033, q_u_k (by decide)]
                        have t_6040 : (I_6032 o 8).toInt = (I_6009 o 8).toInt := by rw [← e_6033, q_u_k (by decide)]
                        have t_6041 : (I_6032 o 9).toInt = (I_6009 o 9).toInt := by rw [← e_6033, q_u_k (by decide)]
                        have t_6042 : (I_6032 o 44).toInt = (I_6009 o 44).toInt := by rw [← e_6033, q_u_k (by decide)]
                        have t_6043 : (I_6032 o 45).toInt = (I_6009 o 45).toInt := by rw [← e_6033, q_u_k (by decide)]
                        have t_6044 : (I_6032 o 47).toInt = ((I_6009 o 47) + 1).toInt := by rw [← e_6033, q_u_at]
                        have t_6045 : (I_6032 o 48).toInt = (I_6009 o 48).toInt := by rw [← e_6033, q_u_k (by decide)]
                        have t_6046 : (I_6032 o 46).toInt = (I_6009 o 46).toInt := by rw [← e_6033, q_u_k (by decide)]
                        have k_6047 : MTd I_6032 o := k_6026.fr (by rw [← e_6033]; exact q_u_ne (by omega)) (by rw [← e_6033]; exact q_u_ne (by omega)) (by rw [← e_6033]; exact q_u_ne (by omega))
                        have k_6048 : MPo I_6032 o := k_6027.fr (by rw [← e_6033, q_u_k (by decide)]) (by rw [← e_6033, q_u_k (by decide)])
                        have k_6049 : MTk I_6032 o := k_6028.fr (by rw [← e_6033, q_u_k (by decide)]) (by rw [← e_6033, q_u_k (by decide)]) (by rw [← e_6033, q_u_k (by decide)])
                        have tk := k_6049.2 (by omega)
                        have k_6051 : EX 0 0 1 f0 1 I_6032 o := by exact EX.put47 k_6029 e_6033 (by omega)
                        refine y_Model_next hok hw ra hz16 hz17 hz18 hz19 (by first | omega | (intro h; omega) | exact Or.inl rfl | exact Or.inr rfl) hR_6034 (fun I_6061 L_6062 hR_6063 fr_6064 kp_6065 u_6053 u_6054 u_6055 u_6056 u_6057 u_6058 u_6059 u_6060 => ⟨I_6061, L_6062, rfl, rfl, ?_⟩)
                        have hf_6066 : Fm (fun c => c = o ∨ (o + 30 ≤ c ∧ c < o + 34)) I0 I_6061 := hf_6035.call fr_6064 (fun c hc => by first | exact hc | (dsimp only at hc ⊢; omega) | omega)
                        have t_6067 : (I_6061 o 3).toInt = (I_6032 o 3).toInt := by rw [kp_6065 3 rfl]
                        have t_6068 : (I_6061 o 4).toInt = (I_6032 o 4).toInt := by rw [kp_6065 4 rfl]
                        have g_6069 : (0 : Int) ≤ (I_6061 o 6).toInt ∧ (I_6061 o 6).toInt ≤ 1600 := hR_6063.at0 ra 6 (by decide)
                        have g_6070 : (0 : Int) ≤ (I_6061 o 7).toInt ∧ (I_6061 o 7).toInt ≤ 1601 := hR_6063.at0 ra 7 (by decide)
                        have g_6071 : (0 : Int) ≤ (I_6061 o 8).toInt ∧ (I_6061 o 8).toInt ≤ 6 := hR_6063.at0 ra 8 (by decide)
                        have t_6072 : (I_6061 o 44).toInt = (I_6032 o 44).toInt := by rw [kp_6065 44 rfl]
                        have t_6073 : (I_6061 o 45).toInt = (I_6032 o 45).toInt := by rw [kp_6065 45 rfl]
                        have t_6074 : (I_6061 o 47).toInt = (I_6032 o 47).toInt := by rw [kp_6065 47 rfl]
                        have t_6075 : (I_6061 o 48).toInt = (I_6032 o 48).toInt := by rw [kp_6065 48 rfl]
                        have t_6076 : (I_6061 o 46).toInt = (I_6032 o 46).toInt := by rw [kp_6065 46 rfl]
                        have k_6077 : MTd I_6061 o := k_6047.fr (fr_6064 _ (by first | omega | (dsimp only; omega))) (fr_6064 _ (by first | omega | (dsimp only; omega))) (fr_6064 _ (by first | omega | (dsimp only; omega)))
                        have ms := u_6056 (by omega)
                        have k_6078 : EX 0 0 0 f0 1 I_6061 o := by exact EX.nx k_6051 (fr_6064 _ (by first | omega | (dsimp only; omega))) (fr_6064 _ (by first | omega | (dsimp only; omega))) (fr_6064 _ (by first | omega | (dsimp only; omega))) (fr_6064 _ (by first | omega | (dsimp only; omega))) (fr_6064 _ (by first | omega | (dsimp only; omega))) (kp_6065 3 rfl) (kp_6065 44 rfl) (kp_6065 45 rfl) (kp_6065 47 rfl) (kp_6065 48 rfl) (by omega) (by omega)
                        exact (hp _ _ _ hR_6063 hf_6066 (Or.inr rfl) (by first | omega | (intro h; omega) | exact Or.inl rfl | exact Or.inr rfl) (by first | omega | (intro h; omega) | exact Or.inl rfl | exact Or.inr rfl) (by first | omega | (intro h; omega) | exact Or.inl rfl | exact Or.inr rfl) (by first | omega | (intro h; omega) | exact Or.inl rfl | exact Or.inr rfl) (by first | omega | (intro h; omega) | exact Or.inl rfl | exact Or.inr rfl) (by first | (intro h; exfalso; omega) | exact fun _ => k_6078 | exact fun _ => (False.elim (by omega))) k_6077 u_6059 u_6060)
                      · have d_6079 := iEq c_6002
                        have i_6080 := u_6000 (by omega)
                        exact (hp _ _ _ hR_5978 hf_5981 (Or.inr rfl) (by first | omega | (intro h; omega) | exact Or.inl rfl | exact Or.inr rfl) (by first | omega | (intro h; omega) | exact Or.inl rfl | exact Or.inr rfl) (by first | omega | (intro h; omega) | exact Or.inl rfl | exact Or.inr rfl) (by first | omega | (intro h; omega) | exact Or.inl rfl | exact Or.inr rfl) (by first | omega | (intro h; omega) | exact Or.inl rfl | exact Or.inr rfl) (by first | (intro h; exfalso; omega) | exact fun _ => k_5993 | exact fun _ => (False.elim (by omega))) k_5994 k_5995 k_5996)
                · have d_6081 := iEq c_5681
                  have i_6082 := u_5679 (by omega)
                  exact (hp _ _ _ hR_5657 hf_5660 (Or.inr rfl) (by first | omega | (intro h; omega) | exact Or.inl rfl | exact Or.inr rfl) (by first | omega | (intro h; omega) | exact Or.inl rfl | exact Or.inr rfl) (by first | omega | (intro h; omega) | exact Or.inl rfl | exact Or.inr rfl) (by first | omega | (intro h; omega) | exact Or.inl rfl | exact Or.inr rfl) (by first | omega | (intro h; omega) | exact Or.inl rfl | exact Or.inr rfl) (by first | (intro h; exfalso; omega) | exact fun _ => k_5672 | exact fun _ => (False.elim (by omega))) k_5673 k_5674 k_5675)
            · have d_6083 := iEq c_5236
              have g_6084 : (0 : Int) ≤ (I_5208 o 8).toInt ∧ (I_5208 o 8).toInt ≤ 6 := hR_5210.at0 ra 8 (by decide)
              have l_6085 : (4 : Int32).toInt = 4 := rfl
              refine ⟨fun c_6086 => ?_, fun c_6086 => ?_⟩
              · have d_6087 := iEq c_6086
                unfold fModel_unit_131
                have g_6088 : (0 : Int) ≤ (I_5208 o 46).toInt ∧ (I_5208 o 46).toInt ≤ 100 := hR_5210.at0 ra 46 (by decide)
                have l_6089 : (100 : Int32).toInt = 100 := rfl
                refine ⟨fun c_6090 => ?_, fun c_6090 => ?_⟩
                · have d_6091 := iNe c_6090
                  refine y_Model_isGood hok hw ra hR_5210 (fun r_6092 u_6093 u_6094 u_6095 => ⟨r_6092, I_5208, L_5209, rfl, rfl, ?_⟩)
                  have b_6096 : 0 ≤ r_6092.toInt ∧ r_6092.toInt ≤ 1 := u_6093.rg
                  refine ⟨fun c_6097 => ?_, fun c_6097 => ?_⟩
                  · have d_6098 := iNe c_6097
                    have i_6099 := u_6094 (by omega)
                    have g_6100 : (0 : Int) ≤ (I_5208 o 46).toInt ∧ (I_5208 o 46).toInt ≤ 100 := hR_5210.at0 ra 46 (by decide)
                    have a_6101 : ((I_5208 o 46) + 1).toInt = (I_5208 o 46).toInt + (1 : Int32).toInt := tAdd (by omega) (by omega)
                    refine fun I_6102 e_6103 => ?_
                    have hR_6104 : RI R I_6102 := hR_5210.up0 (k := 46) ra (by decide) (Or.inr hz56) e_6103 (show (0 : Int) ≤ ((I_5208 o 46) + 1).toInt by omega) (show ((I_5208 o 46) + 1).toInt ≤ (100 : Int) by omega)
                    have hf_6105 : Fm (fun c => c = o ∨ (o + 30 ≤ c ∧ c < o + 34)) I0 I_6102 := hf_5213.set (by first | rfl | omega | (dsimp only; omega)) e_6103
                    have t_6106 : (I_6102 o 3).toInt = (I_5208 o 3).toInt := by rw [← e_6103, q_u_k (by decide)]
                    have t_6107 : (I_6102 o 4).toInt = (I_5208 o 4).toInt := by rw [← e_6103, q_u_k (by decide)]
                    have t_6108 : (I_6102 o 6).toInt = (I_5208 o 6).toInt := by rw [← e_6103, q_u_k (by decide)]
                    have t_6109 : (I_6102 o 7).toInt = (I_5208 o 7).toInt := by rw [← e_6103, q_u_k (by decide)]
                    have t_6110 : (I_6102 o 8).toInt = (I_5208 o 8).toInt := by rw [← e_6103, q_u_k (by decide)]
                    have t_6111 : (I_6102 o 9).toInt = (I_5208 o 9).toInt := by rw [← e_6103, q_u_k (by decide)]
                    have t_6112 : (I_6102 o 44).toInt = (I_5208 o 44).toInt := by rw [← e_6103, q_u_k (by decide)]
                    have t_6113 : (I_6102 o 45).toInt = (I_5208 o 45).toInt := by rw [← e_6103, q_u_k (by decide)]
                    have t_6114 : (I_6102 o 47).toInt = (I_5208 o 47).toInt := by rw [← e_6103, q_u_k (by decide)]
                    have t_6115 : (I_6102 o 48).toInt = (I_5208 o 48).toInt := by rw [← e_6103, q_u_k (by decide)]
                    have t_6116 : (I_6102 o 46).toInt = ((I_5208 o 46) + 1).toInt := by rw [← e_6103, q_u_at]
                    have k_6117 : EX 0 0 0 f0 1 I_6102 o := k_5224.fr (by rw [← e_6103]; exact q_u_ne (by omega)) (by rw [← e_6103]; exact q_u_ne (by omega)) (by rw [← e_6103]; exact q_u_ne (by omega)) (by rw [← e_6103]; exact q_u_ne (by omega)) (by rw [← e_6103]; exact q_u_ne (by omega)) (by rw [← e_6103, q_u_k (by decide)]) (by rw [← e_6103, q_u_k (by decide)]) (by rw [← e_6103, q_u_k (by decide)]) (by rw [← e_6103, q_u_k (by decide)]) (by rw [← e_6103, q_u_k (by decide)]) (by rw [← e_6103, q_u_k (by decide)])
                    have k_6118 : MTd I_6102 o := k_5225.fr (by rw [← e_6103]; exact q_u_ne (by omega)) (by rw [← e_6103]; exact q_u_ne (by omega)) (by rw [← e_6103]; exact q_u_ne (by omega))
                    have k_6119 : MPo I_6102 o := k_5226.fr (by rw [← e_6103, q_u_k (by decide)]) (by rw [← e_6103, q_u_k (by decide)])
                    have k_6120 : MTk I_6102 o := k_5227.fr (by rw [← e_6103, q_u_k (by decide)]) (by rw [← e_6103, q_u_k (by decide)]) (by rw [← e_6103, q_u_k (by decide)])
                    have l_6121 : (40 : Int32).toInt = 40 := rfl
                    refine y_Model_is hok hw ra hR_6104 (fun r_6122 u_6123 u_6124 u_6125 => ⟨r_6122, I_6102, L_5209, rfl, rfl, ?_⟩)
                    have b_6126 : 0 ≤ r_6122.toInt ∧ r_6122.toInt ≤ 1 := u_6123.rg
                    refine ⟨fun c_6127 => ?_, fun c_6127 => ?_⟩
                    · have d_6128 := iEq c_6127
                      have cd := k_6117.cod
                      have tk := k_6120.2 (by omega)
                      refine ⟨fun c_6129 => ?_, fun c_6129 => ?_⟩
                      · have d_6130 := iNe c_6129
                        have i_6131 := u_5205 (by omega)
                        have i_6132 := u_5206 (by omega)
                        exfalso; omega
                      · have d_6133 := iEq c_6129
                        unfold fModel_unit_228
                        have l_6134 : (78 : Int32).toInt = 78 := rfl
                        refine ⟨fun c_6135 => ?_, fun c_6135 => ?_⟩
                        · have d_6136 := iNe c_6135
                          have i_6137 := u_5205 (by omega)
                          have i_6138 := u_5206 (by omega)
                          exfalso; omega
                        · have d_6139 := iEq c_6135
                          refine y_Model_step hok hw ra hz55 (by first | omega | (intro h; omega) | exact Or.inl rfl | exact Or.inr rfl) (by first | omega | (intro h; omega) | exact Or.inl rfl | exact Or.inr rfl) hR_6104 (fun I_6143 L_6144 hR_6145 fr_6146 kp_6147 u_6141 u_6142 => ⟨I_6143, L_6144, rfl, rfl, ?_⟩)
                          have hf_6148 : Fm (fun c => c = o ∨ (o + 30 ≤ c ∧ c < o + 34)) I0 I_6143 := hf_6105.call fr_6146 (fun c hc => by first | exact hc | (dsimp only at hc ⊢; omega) | omega)
                          have t_6149 : (I_6143 o 3).toInt = (I_6102 o 3).toInt := by rw [kp_6147 3 rfl]
                          have t_6150 : (I_6143 o 4).toInt = (I_6102 o 4).toInt := by rw [kp_6147 4 rfl]
                          have t_6151 : (I_6143 o 6).toInt = (I_6102 o 6).toInt := by rw [kp_6147 6 rfl]
                          have t_6152 : (I_6143 o 7).toInt = (I_6102 o 7).toInt := by rw [kp_6147 7 rfl]
                          have t_6153 : (I_6143 o 8).toInt = (I_6102 o 8).toInt := by rw [kp_6147 8 rfl]
                          have t_6154 : (I_6143 o 9).toInt = (I_6102 o 9).toInt := by rw [kp_6147 9 rfl]
                          have t_6155 : (I_6143 o 44).toInt = (I_6102 o 44).toInt := by rw [kp_6147 44 rfl]
                          have g_6156 : (0 : Int) ≤ (I_6143 o 45).toInt ∧ (I_6143 o 45).toInt ≤ 700 := hR_6145.at0 ra 45 (by decide)
                          have t_6157 : (I_6143 o 47).toInt = (I_6102 o 47).toInt := by rw [kp_6147 47 rfl]
                          have t_6158 : (I_6143 o 48).toInt = (I_6102 o 48).toInt := by rw [kp_6147 48 rfl]
                          have t_6159 : (I_6143 o 46).toInt = (I_6102 o 46).toInt := by rw [kp_6147 46 rfl]
                          have k_6160 : MPo I_6143 o := k_6119.fr (kp_6147 8 rfl) (kp_6147 9 rfl)
                          have k_6161 : MTk I_6143 o := k_6120.fr (kp_6147 6 rfl) (kp_6147 7 rfl) (kp_6147 8 rfl)
                          have tk := k_6161.2 (by omega)
                          have k_6162 : EX 0 0 1 f0 0 I_6143 o := by exact EX.step1 k_6117 (by first | exact u_5205 (by omega) | (unfold isT; decide)) (by omega) (fr_6146 _ (by first | omega | (dsimp only; omega))) (fr_6146 _ (by first | omega | (dsimp only; omega))) u_6141 (fr_6146 _ (by first | omega | (dsimp only; omega))) (fr_6146 _ (by first | omega | (dsimp only; omega))) (kp_6147 3 rfl) (kp_6147 6 rfl) (kp_6147 44 rfl) u_6142 (kp_6147 47 rfl) (kp_6147 48 rfl)
                          have k_6163 : MTd I_6143 o := by exact MTd.step k_6118 (fr_6146 _ (by first | omega | (dsimp only; omega))) (fr_6146 _ (by first | omega | (dsimp only; omega))) u_6141 (by omega)
                          refine y_Model_next hok hw ra hz16 hz17 hz18 hz19 (by first | omega | (intro h; omega) | exact Or.inl rfl | exact Or.inr rfl) hR_6145 (fun I_6173 L_6174 hR_6175 fr_6176 kp_6177 u_6165 u_6166 u_6167 u_6168 u_6169 u_6170 u_6171 u_6172 => ⟨I_6173, L_6174, rfl, rfl, ?_⟩)
                          have hf_6178 : Fm (fun c => c = o ∨ (o + 30 ≤ c ∧ c < o + 34)) I0 I_6173 := hf_6148.call fr_6176 (fun c hc => by first | exact hc | (dsimp only at hc ⊢; omega) | omega)
                          have t_6179 : (I_6173 o 3).toInt = (I_6143 o 3).toInt := by rw [kp_6177 3 rfl]
                          have t_6180 : (I_6173 o 4).toInt = (I_6143 o 4).toInt := by rw [kp_6177 4 rfl]
                          have g_6181 : (0 : Int) ≤ (I_6173 o 6).toInt ∧ (I_6173 o 6).toInt ≤ 1600 := hR_6175.at0 ra 6 (by decide)
                          have g_6182 : (0 : Int) ≤ (I_6173 o 7).toInt ∧ (I_6173 o 7).toInt ≤ 1601 := hR_6175.at0 ra 7 (by decide)
                          have g_6183 : (0 : Int) ≤ (I_6173 o 8).toInt ∧ (I_6173 o 8).toInt ≤ 6 := hR_6175.at0 ra 8 (by decide)
                          have t_6184 : (I_6173 o 44).toInt = (I_6143 o 44).toInt := by rw [kp_6177 44 rfl]
                          have t_6185 : (I_6173 o 45).toInt = (I_6143 o 45).toInt := by rw [kp_6177 45 rfl]
                          have t_6186 : (I_6173 o 47).toInt = (I_6143 o 47).toInt := by rw [kp_6177 47 rfl]
                          have t_6187 : (I_6173 o 48).toInt = (I_6143 o 48).toInt := by rw [kp_6177 48 rfl]
                          have t_6188 : (I_6173 o 46).toInt = (I_6143 o 46).toInt := by rw [kp_6177 46 rfl]
                          have k_6189 : MTd I_6173 o := k_6163.fr (fr_6176 _ (by first | omega | (dsimp only; omega))) (fr_6176 _ (by first | omega | (dsimp only; omega))) (fr_6176 _ (by first | omega | (dsimp only; omega)))
                          have ms := u_6168 (by omega)
                          have k_6190 : EX 0 0 0 f0 0 I_6173 o := by exact EX.nx k_6162 (fr_6176 _ (by first | omega | (dsimp only; omega))) (fr_6176 _ (by first | omega | (dsimp only; omega))) (fr_6176 _ (by first | omega | (dsimp only; omega))) (fr_6176 _ (by first | omega | (dsimp only; omega))) (fr_6176 _ (by first | omega | (dsimp only; omega))) (kp_6177 3 rfl) (kp_6177 44 rfl) (kp_6177 45 rfl) (kp_6177 47 rfl) (kp_6177 48 rfl) (by omega) (by omega)
                          exact (hp _ _ _ hR_6175 hf_6178 (Or.inl rfl) (by first | omega | (intro h; omega) | exact Or.inl rfl | exact Or.inr rfl) (by first | omega | (intro h; omega) | exact Or.inl rfl | exact Or.inr rfl) (by first | omega | (intro h; omega) | exact Or.inl rfl | exact Or.inr rfl) (by first | omega | (intro h; omega) | exact Or.inl rfl | exact Or.inr rfl) (by first | omega | (intro h; omega) | exact Or.inl rfl | exact Or.inr rfl) (by first | (intro h; exfalso; omega) | exact fun _ => (False.elim (by omega)) | exact fun _ => k_6190) k_6189 u_6171 u_6172)
                    · have d_6191 := iNe c_6127
                      have i_6192 := u_6124 (by omega)
                      have i_6193 := u_6125 (by omega)
                      have g_6194 : (0 : Int) ≤ (I_6102 o 47).toInt ∧ (I_6102 o 47).toInt ≤ 7 := hR_6104.at0 ra 47 (by decide)
                      refine ⟨fun c_6195 => ?_, fun c_6195 => ?_⟩
                      · have d_6196 := iNe c_6195
                        refine y_Model_isGood hok hw ra hR_6104 (fun r_6197 u_6198 u_6199 u_6200 => ⟨r_6197, I_6102, L_5209, rfl, rfl, ?_⟩)
                        have b_6201 : 0 ≤ r_6197.toInt ∧ r_6197.toInt ≤ 1 := u_6198.rg
                        refine ⟨fun c_6202 => ?_, fun c_6202 => ?_⟩
                        · have d_6203 := iNe c_6202
                          have i_6204 := u_6199 (by omega)
                          refine y_Model_pile hok hw ra hz58 (by first | omega | (intro h; omega) | exact Or.inl rfl | exact Or.inr rfl) (by first | omega | (intro h; omega) | exact Or.inl rfl | exact Or.inr rfl) hR_6104 (fun I_6209 L_6210 hR_6211 fr_6212 kp_6213 u_6206 u_6207 u_6208 => ⟨I_6209, L_6210, rfl, rfl, ?_⟩)
                          have hf_6214 : Fm (fun c => c = o ∨ (o + 30 ≤ c ∧ c < o + 34)) I0 I_6209 := hf_6105.call fr_6212 (fun c hc => by first | exact hc | (dsimp only at hc ⊢; omega) | omega)
                          have t_6215 : (I_6209 o 3).toInt = (I_6102 o 3).toInt := by rw [kp_6213 3 rfl]
                          have t_6216 : (I_6209 o 4).toInt = (I_6102 o 4).toInt := by rw [kp_6213 4 rfl]
                          have t_6217 : (I_6209 o 6).toInt = (I_6102 o 6).toInt := by rw [kp_6213 6 rfl]
                          have t_6218 : (I_6209 o 7).toInt = (I_6102 o 7).toInt := by rw [kp_6213 7 rfl]
                          have t_6219 : (I_6209 o 8).toInt = (I_6102 o 8).toInt := by rw [kp_6213 8 rfl]
                          have t_6220 : (I_6209 o 9).toInt = (I_6102 o 9).toInt := by rw [kp_6213 9 rfl]
                          have t_6221 : (I_6209 o 44).toInt = (I_6102 o 44).toInt := by rw [kp_6213 44 rfl]
                          have t_6222 : (I_6209 o 45).toInt = (I_6102 o 45).toInt := by rw [kp_6213 45 rfl]
                          have t_6223 : (I_6209 o 47).toInt = (I_6102 o 47).toInt := by rw [kp_6213 47 rfl]
                          have g_6224 : (0 : Int) ≤ (I_6209 o 48).toInt ∧ (I_6209 o 48).toInt ≤ 80 := hR_6211.at0 ra 48 (by decide)
                          have t_6225 : (I_6209 o 46).toInt = (I_6102 o 46).toInt := by rw [kp_6213 46 rfl]
                          have k_6226 : MTd I_6209 o := k_6118.fr (fr_6212 _ (by first | omega | (dsimp only; omega))) (fr_6212 _ (by first | omega | (dsimp only; omega))) (fr_6212 _ (by first | omega | (dsimp only; omega)))
                          have k_6227 : MPo I_6209 o := k_6119.fr (kp_6213 8 rfl) (kp_6213 9 rfl)
                          have k_6228 : MTk I_6209 o := k_6120.fr (kp_6213 6 rfl) (kp_6213 7 rfl) (kp_6213 8 rfl)
                          have k_6229 : EX 0 1 1 f0 1 I_6209 o := by have z := EX.push k_6117 (v := 7) (s := 0) (dB := 1) (dO := 0) (wt' := 1) (by decide) (by decide) (by decide) (by omega) ⟨by decide, by decide⟩ ⟨fun h => absurd h (by decide), fun h => absurd h (by decide)⟩ (Or.inl rfl) (fr_6212 _ (by first | omega | (dsimp only; omega))) (fr_6212 _ (by first | omega | (dsimp only; omega))) (fr_6212 _ (by first | omega | (dsimp only; omega))) u_6206 u_6207 (kp_6213 3 rfl) (kp_6213 6 rfl) (kp_6213 44 rfl) (kp_6213 45 rfl) (kp_6213 47 rfl) u_6208; exact EX.chg (b' := 1) z rfl rfl rfl rfl rfl rfl rfl rfl rfl rfl (by omega) z.pl
                          have g_6230 : (0 : Int) ≤ (I_6209 o 47).toInt ∧ (I_6209 o 47).toInt ≤ 7 := hR_6211.at0 ra 47 (by decide)
                          have a_6231 : ((I_6209 o 47) + 1).toInt = (I_6209 o 47).toInt + (1 : Int32).toInt := tAdd (by omega) (by omega)
                          refine fun I_6232 e_6233 => ?_
                          have hR_6234 : RI R I_6232 := hR_6211.up0 (k := 47) ra (by decide) (Or.inr hz57) e_6233 (show (0 : Int) ≤ ((I_6209 o 47) + 1).toInt by omega) (show ((I_6209 o 47) + 1).toInt ≤ (7 : Int) by omega)
                          have hf_6235 : Fm (fun c => c = o ∨ (o + 30 ≤ c ∧ c < o + 34)) I0 I_6232 := hf_6214.set (by first | rfl | omega | (dsimp only; omega)) e_6233
                          have t_6236 : (I_6232 o 3).toInt = (I_6209 o 3).toInt := by rw [← e_6233, q_u_k (by decide)]
                          have t_6237 : (I_6232 o 4).toInt = (I_6209 o 4).toInt := by rw [← e_6233, q_u_k (by decide)]
                          have t_6238 : (I_6232 o 6).toInt = (I_6209 o 6).toInt := by rw [← e_6233, q_u_k (by decide)]
                          have t_6239 : (I_6232 o 7).toInt = (I_6209 o 7).toInt := by rw [← e_6233, q_u_k (by decide)]
                          have t_6240 : (I_6232 o 8).toInt = (I_6209 o 8).toInt := by rw [← e_6233, q_u_k (by decide)]
                          have t_6241 : (I_6232 o 9).toInt = (I_6209 o 9).toInt := by rw [← e_6233, q_u_k (by decide)]
                          have t_6242 : (I_6232 o 44).toInt = (I_6209 o 44).toInt := by rw [← e_6233, q_u_k (by decide)]
                          have t_6243 : (I_6232 o 45).toInt = (I_6209 o 45).toInt := by rw [← e_6233, q_u_k (by decide)]
                          have t_6244 : (I_6232 o 47).toInt = ((I_6209 o 47) + 1).toInt := by rw [← e_6233, q_u_at]
                          have t_6245 : (I_6232 o 48).toInt = (I_6209 o 48).toInt := by rw [← e_6233, q_u_k (by decide)]
                          have t_6246 : (I_6232 o 46).toInt = (I_6209 o 46).toInt := by rw [← e_6233, q_u_k (by decide)]
                          have k_6247 : MTd I_6232 o := k_6226.fr (by rw [← e_6233]; exact q_u_ne (by omega)) (by rw [← e_6233]; exact q_u_ne (by omega)) (by rw [← e_6233]; exact q_u_ne (by omega))
                          have k_6248 : MPo I_6232 o := k_6227.fr (by rw [← e_6233, q_u_k (by decide)]) (by rw [← e_6233, q_u_k (by decide)])
                          have k_6249 : MTk I_6232 o := k_6228.fr (by rw [← e_6233, q_u_k (by decide)]) (by rw [← e_6233, q_u_k (by decide)]) (by rw [← e_6233, q_u_k (by decide)])
                          have tk := k_6249.2 (by omega)
                          have k_6251 : EX 0 0 1 f0 1 I_6232 o := by exact EX.put47 k_6229 e_6233 (by omega)
                          refine y_Model_next hok hw ra hz16 hz17 hz18 hz19 (by first | omega | (intro h; omega) | exact Or.inl rfl | exact Or.inr rfl) hR_6234 (fun I_6261 L_6262 hR_6263 fr_6264 kp_6265 u_6253 u_6254 u_6255 u_6256 u_6257 u_6258 u_6259 u_6260 => ⟨I_6261, L_6262, rfl, rfl, ?_⟩)
                          have hf_6266 : Fm (fun c => c = o ∨ (o + 30 ≤ c ∧ c < o + 34)) I0 I_6261 := hf_6235.call fr_6264 (fun c hc => by first | exact hc | (dsimp only at hc ⊢; omega) | omega)
                          have t_6267 : (I_6261 o 3).toInt = (I_6232 o 3).toInt := by rw [kp_6265 3 rfl]
                          have t_6268 : (I_6261 o 4).toInt = (I_6232 o 4).toInt := by rw [kp_6265 4 rfl]
                          have g_6269 : (0 : Int) ≤ (I_6261 o 6).toInt ∧ (I_6261 o 6).toInt ≤ 1600 := hR_6263.at0 ra 6 (by decide)
                          have g_6270 : (0 : Int) ≤ (I_6261 o 7).toInt ∧ (I_6261 o 7).toInt ≤ 1601 := hR_6263.at0 ra 7 (by decide)
                          have g_6271 : (0 : Int) ≤ (I_6261 o 8).toInt ∧ (I_6261 o 8).toInt ≤ 6 := hR_6263.at0 ra 8 (by decide)
                          have t_6272 : (I_6261 o 44).toInt = (I_6232 o 44).toInt := by rw [kp_6265 44 rfl]
                          have t_6273 : (I_6261 o 45).toInt = (I_6232 o 45).toInt := by rw [kp_6265 45 rfl]
                          have t_6274 : (I_6261 o 47).toInt = (I_6232 o 47).toInt := by rw [kp_6265 47 rfl]
                          have t_6275 : (I_6261 o 48).toInt = (I_6232 o 48).toInt := by rw [kp_6265 48 rfl]
                          have t_6276 : (I_6261 o 46).toInt = (I_6232 o 46).toInt := by rw [kp_6265 46 rfl]
                          have k_6277 : MTd I_6261 o := k_6247.fr (fr_6264 _ (by first | omega | (dsimp only; omega))) (fr_6264 _ (by first | omega | (dsimp only; omega))) (fr_6264 _ (by first | omega | (dsimp only; omega)))
                          have ms := u_6256 (by omega)
                          have k_6278 : EX 0 0 0 f0 1 I_6261 o := by exact EX.nx k_6251 (fr_6264 _ (by first | omega | (dsimp only; omega))) (fr_6264 _ (by first | omega | (dsimp only; omega))) (fr_6264 _ (by first | omega | (dsimp only; omega))) (fr_6264 _ (by first | omega | (dsimp only; omega))) (fr_6264 _ (by first | omega | (dsimp only; omega))) (kp_6265 3 rfl) (kp_6265 44 rfl) (kp_6265 45 rfl) (kp_6265 47 rfl) (kp_6265 48 rfl) (by omega) (by omega)
                          exact (hp _ _ _ hR_6263 hf_6266 (Or.inr rfl) (by first | omega | (intro h; omega) | exact Or.inl rfl | exact Or.inr rfl) (by first | omega | (intro h; omega) | exact Or.inl rfl | exact Or.inr rfl) (by first | omega | (intro h; omega) | exact Or.inl rfl | exact Or.inr rfl) (by first | omega | (intro h; omega) | exact Or.inl rfl | exact Or.inr rfl) (by first | omega | (intro h; omega) | exact Or.inl rfl | exact Or.inr rfl) (by first | (intro h; exfalso; omega) | exact fun _ => k_6278 | exact fun _ => (False.elim (by omega))) k_6277 u_6259 u_6260)
                        · have d_6279 := iEq c_6202
                          have i_6280 := u_6200 (by omega)
                          exact (hp _ _ _ hR_6104 hf_6105 (Or.inr rfl) (by first | omega | (intro h; omega) | exact Or.inl rfl | exact Or.inr rfl) (by first | omega | (intro h; omega) | exact Or.inl rfl | exact Or.inr rfl) (by first | omega | (intro h; omega) | exact Or.inl rfl | exact Or.inr rfl) (by first | omega | (intro h; omega) | exact Or.inl rfl | exact Or.inr rfl) (by first | omega | (intro h; omega) | exact Or.inl rfl | exact Or.inr rfl) (by first | (intro h; exfalso; omega) | exact fun _ => k_6117 | exact fun _ => (False.elim (by omega))) k_6118 k_6119 k_6120)
                      · have d_6281 := iEq c_6195
                        refine y_Model_wrong hok hw ra hz14 hz15 hR_6104 (fun I_6285 L_6286 hR_6287 fr_6288 kp_6289 u_6283 u_6284 => ⟨I_6285, L_6286, rfl, rfl, ?_⟩)
                        have hf_6290 : Fm (fun c => c = o ∨ (o + 30 ≤ c ∧ c < o + 34)) I0 I_6285 := hf_6105.call fr_6288 (fun c hc => by first | exact hc | (dsimp only at hc ⊢; omega) | omega)
                        have t_6291 : (I_6285 o 3).toInt = (I_6102 o 3).toInt := by rw [kp_6289 3 rfl]
                        have g_6292 : (0 : Int) ≤ (I_6285 o 4).toInt ∧ (I_6285 o 4).toInt ≤ 5 := hR_6287.at0 ra 4 (by decide)
                        have t_6293 : (I_6285 o 6).toInt = (I_6102 o 6).toInt := by rw [kp_6289 6 rfl]
                        have t_6294 : (I_6285 o 7).toInt = (I_6102 o 7).toInt := by rw [kp_6289 7 rfl]
                        have t_6295 : (I_6285 o 8).toInt = (I_6102 o 8).toInt := by rw [kp_6289 8 rfl]
                        have t_6296 : (I_6285 o 9).toInt = (I_6102 o 9).toInt := by rw [kp_6289 9 rfl]
                        have t_6297 : (I_6285 o 44).toInt = (I_6102 o 44).toInt := by rw [kp_6289 44 rfl]
                        have t_6298 : (I_6285 o 45).toInt = (I_6102 o 45).toInt := by rw [kp_6289 45 rfl]
                        have t_6299 : (I_6285 o 47).toInt = (I_6102 o 47).toInt := by rw [kp_6289 47 rfl]
                        have t_6300 : (I_6285 o 48).toInt = (I_6102 o 48).toInt := by rw [kp_6289 48 rfl]
                        have t_6301 : (I_6285 o 46).toInt = (I_6102 o 46).toInt := by rw [kp_6289 46 rfl]
                        have k_6302 : EX 0 0 0 f0 1 I_6285 o := k_6117.fr (fr_6288 _ (by first | omega | (dsimp only; omega))) (fr_6288 _ (by first | omega | (dsimp only; omega))) (fr_6288 _ (by first | omega | (dsimp only; omega))) (fr_6288 _ (by first | omega | (dsimp only; omega))) (fr_6288 _ (by first | omega | (dsimp only; omega))) (kp_6289 3 rfl) (kp_6289 6 rfl) (kp_6289 44 rfl) (kp_6289 45 rfl) (kp_6289 47 rfl) (kp_6289 48 rfl)
                        have k_6303 : MTd I_6285 o := k_6118.fr (fr_6288 _ (by first | omega | (dsimp only; omega))) (fr_6288 _ (by first | omega | (dsimp only; omega))) (fr_6288 _ (by first | omega | (dsimp only; omega)))
                        have k_6304 : MPo I_6285 o := k_6119.fr (kp_6289 8 rfl) (kp_6289 9 rfl)
                        have k_6305 : MTk I_6285 o := k_6120.fr (kp_6289 6 rfl) (kp_6289 7 rfl) (kp_6289 8 rfl)
                        refine y_Model_isGood hok hw ra hR_6287 (fun r_6306 u_6307 u_6308 u_6309 => ⟨r_6306, I_6285, L_6286, rfl, rfl, ?_⟩)
                        have b_6310 : 0 ≤ r_6306.toInt ∧ r_6306.toInt ≤ 1 := u_6307.rg
                        refine ⟨fun c_6311 => ?_, fun c_6311 => ?_⟩
                        · have d_6312 := iNe c_6311
                          have i_6313 := u_6308 (by omega)
                          refine y_Model_pile hok hw ra hz58 (by first | omega | (intro h; omega) | exact Or.inl rfl | exact Or.inr rfl) (by first | omega | (intro h; omega) | exact Or.inl rfl | exact Or.inr rfl) hR_6287 (fun I_6318 L_6319 hR_6320 fr_6321 kp_6322 u_6315 u_6316 u_6317 => ⟨I_6318, L_6319, rfl, rfl, ?_⟩)
                          have hf_6323 : Fm (fun c => c = o ∨ (o + 30 ≤ c ∧ c < o + 34)) I0 I_6318 := hf_6290.call fr_6321 (fun c hc => by first | exact hc | (dsimp only at hc ⊢; omega) | omega)
                          have t_6324 : (I_6318 o 3).toInt = (I_6285 o 3).toInt := by rw [kp_6322 3 rfl]
                          have t_6325 : (I_6318 o 4).toInt = (I_6285 o 4).toInt := by rw [kp_6322 4 rfl]
                          have t_6326 : (I_6318 o 6).toInt = (I_6285 o 6).toInt := by rw [kp_6322 6 rfl]
                          have t_6327 : (I_6318 o 7).toInt = (I_6285 o 7).toInt := by rw [kp_6322 7 rfl]
                          have t_6328 : (I_6318 o 8).toInt = (I_6285 o 8).toInt := by rw [kp_6322 8 rfl]
                          have t_6329 : (I_6318 o 9).toInt = (I_6285 o 9).toInt := by rw [kp_6322 9 rfl]
                          have t_6330 : (I_6318 o 44).toInt = (I_6285 o 44).toInt := by rw [kp_6322 44 rfl]
                          have t_6331 : (I_6318 o 45).toInt = (I_6285 o 45).toInt := by rw [kp_6322 45 rfl]
                          have t_6332 : (I_6318 o 47).toInt = (I_6285 o 47).toInt := by rw [kp_6322 47 rfl]
                          have g_6333 : (0 : Int) ≤ (I_6318 o 48).toInt ∧ (I_6318 o 48).toInt ≤ 80 := hR_6320.at0 ra 48 (by decide)
                          have t_6334 : (I_6318 o 46).toInt = (I_6285 o 46).toInt := by rw [kp_6322 46 rfl]
                          have k_6335 : MTd I_6318 o := k_6303.fr (fr_6321 _ (by first | omega | (dsimp only; omega))) (fr_6321 _ (by first | omega | (dsimp only; omega))) (fr_6321 _ (by first | omega | (dsimp only; omega)))
                          have k_6336 : MPo I_6318 o := k_6304.fr (kp_6322 8 rfl) (kp_6322 9 rfl)
                          have k_6337 : MTk I_6318 o := k_6305.fr (kp_6322 6 rfl) (kp_6322 7 rfl) (kp_6322 8 rfl)
                          have k_6338 : EX 0 1 1 f0 1 I_6318 o := by have z := EX.push k_6302 (v := 7) (s := 0) (dB := 1) (dO := 0) (wt' := 1) (by decide) (by decide) (by decide) (by omega) ⟨by decide, by decide⟩ ⟨fun h => absurd h (by decide), fun h => absurd h (by decide)⟩ (Or.inl rfl) (fr_6321 _ (by first | omega | (dsimp only; omega))) (fr_6321 _ (by first | omega | (dsimp only; omega))) (fr_6321 _ (by first | omega | (dsimp only; omega))) u_6315 u_6316 (kp_6322 3 rfl) (kp_6322 6 rfl) (kp_6322 44 rfl) (kp_6322 45 rfl) (kp_6322 47 rfl) u_6317; exact EX.chg (b' := 1) z rfl rfl rfl rfl rfl rfl rfl rfl rfl rfl (by omega) z.pl
                          have g_6339 : (0 : Int) ≤ (I_6318 o 47).toInt ∧ (I_6318 o 47).toInt ≤ 7 := hR_6320.at0 ra 47 (by decide)
                          have a_6340 : ((I_6318 o 47) + 1).toInt = (I_6318 o 47).toInt + (1 : Int32).toInt := tAdd (by omega) (by omega)
                          refine fun I_6341 e_6342 => ?_
                          have hR_6343 : RI R I_6341 := hR_6320.up0 (k := 47) ra (by decide) (Or.inr hz57) e_6342 (show (0 : Int) ≤ ((I_6318 o 47) + 1).toInt by omega) (show ((I_6318 o 47) + 1).toInt ≤ (7 : Int) by omega)
                          have hf_6344 : Fm (fun c => c = o ∨ (o + 30 ≤ c ∧ c < o + 34)) I0 I_6341 := hf_6323.set (by first | rfl | omega | (dsimp only; omega)) e_6342
                          have t_6345 : (I_6341 o 3).toInt = (I_6318 o 3).toInt := by rw [← e_6342, q_u_k (by decide)]
                          have t_6346 : (I_6341 o 4).toInt = (I_6318 o 4).toInt := by rw [← e_6342, q_u_k (by decide)]
                          have t_6347 : (I_6341 o 6).toInt = (I_6318 o 6).toInt := by rw [← e_6342, q_u_k (by decide)]
                          have t_6348 : (I_6341 o 7).toInt = (I_6318 o 7).toInt := by rw [← e_6342, q_u_k (by decide)]
                          have t_6349 : (I_6341 o 8).toInt = (I_6318 o 8).toInt := by rw [← e_6342, q_u_k (by decide)]
                          have t_6350 : (I_6341 o 9).toInt = (I_6318 o 9).toInt := by rw [← e_6342, q_u_k (by decide)]
                          have t_6351 : (I_6341 o 44).toInt = (I_6318 o 44).toInt := by rw [← e_6342, q_u_k (by decide)]
                          have t_6352 : (I_6341 o 45).toInt = (I_6318 o 45).toInt := by rw [← e_6342, q_u_k (by decide)]
                          have t_6353 : (I_6341 o 47).toInt = ((I_6318 o 47) + 1).toInt := by rw [← e_6342, q_u_at]
                          have t_6354 : (I_6341 o 48).toInt = (I_6318 o 48).toInt := by rw [← e_6342, q_u_k (by decide)]
                          have t_6355 : (I_6341 o 46).toInt = (I_6318 o 46).toInt := by rw [← e_6342, q_u_k (by decide)]
                          have k_6356 : MTd I_6341 o := k_6335.fr (by rw [← e_6342]; exact q_u_ne (by omega)) (by rw [← e_6342]; exact q_u_ne (by omega)) (by rw [← e_6342]; exact q_u_ne (by omega))
                          have k_6357 : MPo I_6341 o := k_6336.fr (by rw [← e_6342, q_u_k (by decide)]) (by rw [← e_6342, q_u_k (by decide)])
                          have k_6358 : MTk I_6341 o := k_6337.fr (by rw [← e_6342, q_u_k (by decide)]) (by rw [← e_6342, q_u_k (by decide)]) (by rw [← e_6342, q_u_k (by decide)])
                          have tk := k_6358.2 (by omega)
                          have k_6360 : EX 0 0 1 f0 1 I_6341 o := by exact EX.put47 k_6338 e_6342 (by omega)
                          refine y_Model_next hok hw ra hz16 hz17 hz18 hz19 (by first | omega | (intro h; omega) | exact Or.inl rfl | exact Or.inr rfl) hR_6343 (fun I_6370 L_6371 hR_6372 fr_6373 kp_6374 u_6362 u_6363 u_6364 u_6365 u_6366 u_6367 u_6368 u_6369 => ⟨I_6370, L_6371, rfl, rfl, ?_⟩)
                          have hf_6375 : Fm (fun c => c = o ∨ (o + 30 ≤ c ∧ c < o + 34)) I0 I_6370 := hf_6344.call fr_6373 (fun c hc => by first | exact hc | (dsimp only at hc ⊢; omega) | omega)
                          have t_6376 : (I_6370 o 3).toInt = (I_6341 o 3).toInt := by rw [kp_6374 3 rfl]
                          have t_6377 : (I_6370 o 4).toInt = (I_6341 o 4).toInt := by rw [kp_6374 4 rfl]
                          have g_6378 : (0 : Int) ≤ (I_6370 o 6).toInt ∧ (I_6370 o 6).toInt ≤ 1600 := hR_6372.at0 ra 6 (by decide)
                          have g_6379 : (0 : Int) ≤ (I_6370 o 7).toInt ∧ (I_6370 o 7).toInt ≤ 1601 := hR_6372.at0 ra 7 (by decide)
                          have g_6380 : (0 : Int) ≤ (I_6370 o 8).toInt ∧ (I_6370 o 8).toInt ≤ 6 := hR_6372.at0 ra 8 (by decide)
                          have t_6381 : (I_6370 o 44).toInt = (I_6341 o 44).toInt := by rw [kp_6374 44 rfl]
                          have t_6382 : (I_6370 o 45).toInt = (I_6341 o 45).toInt := by rw [kp_6374 45 rfl]
                          have t_6383 : (I_6370 o 47).toInt = (I_6341 o 47).toInt := by rw [kp_6374 47 rfl]
                          have t_6384 : (I_6370 o 48).toInt = (I_6341 o 48).toInt := by rw [kp_6374 48 rfl]
                          have t_6385 : (I_6370 o 46).toInt = (I_6341 o 46).toInt := by rw [kp_6374 46 rfl]
                          have k_6386 : MTd I_6370 o := k_6356.fr (fr_6373 _ (by first | omega | (dsimp only; omega))) (fr_6373 _ (by first | omega | (dsimp only; omega))) (fr_6373 _ (by first | omega | (dsimp only; omega)))
                          have ms := u_6365 (by omega)
                          have k_6387 : EX 0 0 0 f0 1 I_6370 o := by exact EX.nx k_6360 (fr_6373 _ (by first | omega | (dsimp only; omega))) (fr_6373 _ (by first | omega | (dsimp only; omega))) (fr_6373 _ (by first | omega | (dsimp only; omega))) (fr_6373 _ (by first | omega | (dsimp only; omega))) (fr_6373 _ (by first | omega | (dsimp only; omega))) (kp_6374 3 rfl) (kp_6374 44 rfl) (kp_6374 45 rfl) (kp_6374 47 rfl) (kp_6374 48 rfl) (by omega) (by omega)
                          exact (hp _ _ _ hR_6372 hf_6375 (Or.inr rfl) (by first | omega | (intro h; omega) | exact Or.inl rfl | exact Or.inr rfl) (by first | omega | (intro h; omega) | exact Or.inl rfl | exact Or.inr rfl) (by first | omega | (intro h; omega) | exact Or.inl rfl | exact Or.inr rfl) (by first | omega | (intro h; omega) | exact Or.inl rfl | exact Or.inr rfl) (by first | omega | (intro h; omega) | exact Or.inl rfl | exact Or.inr rfl) (by first | (intro h; exfalso; omega) | exact fun _ => k_6387 | exact fun _ => (False.elim (by omega))) k_6386 u_6368 u_6369)
                        · have d_6388 := iEq c_6311
                          have i_6389 := u_6309 (by omega)
                          exact (hp _ _ _ hR_6287 hf_6290 (Or.inr rfl) (by first | omega | (intro h; omega) | exact Or.inl rfl | exact Or.inr rfl) (by first | omega | (intro h; omega) | exact Or.inl rfl | exact Or.inr rfl) (by first | omega | (intro h; omega) | exact Or.inl rfl | exact Or.inr rfl) (by first | omega | (intro h; omega) | exact Or.inl rfl | exact Or.inr rfl) (by first | omega | (intro h; omega) | exact Or.inl rfl | exact Or.inr rfl) (by first | (intro h; exfalso; omega) | exact fun _ => k_6302 | exact fun _ => (False.elim (by omega))) k_6303 k_6304 k_6305)
                  · have d_6390 := iEq c_6097
                    have i_6391 := u_6095 (by omega)
                    exact (hp _ _ _ hR_5210 hf_5213 (Or.inr rfl) (by first | omega | (intro h; omega) | exact Or.inl rfl | exact Or.inr rfl) (by first | omega | (intro h; omega) | exact Or.inl rfl | exact Or.inr rfl) (by first | omega | (intro h; omega) | exact Or.inl rfl | exact Or.inr rfl) (by first | omega | (intro h; omega) | exact Or.inl rfl | exact Or.inr rfl) (by first | omega | (intro h; omega) | exact Or.inl rfl | exact Or.inr rfl) (by first | (intro h; exfalso; omega) | exact fun _ => k_5224 | exact fun _ => (False.elim (by omega))) k_5225 k_5226 k_5227)
                · have d_6392 := iEq c_6090
                  unfold fModel_unit_140
                  refine y_Model_wrong hok hw ra hz14 hz15 hR_5210 (fun I_6396 L_6397 hR_6398 fr_6399 kp_6400 u_6394 u_6395 => ⟨I_6396, L_6397, rfl, rfl, ?_⟩)
                  have hf_6401 : Fm (fun c => c = o ∨ (o + 30 ≤ c ∧ c < o + 34)) I0 I_6396 := hf_5213.call fr_6399 (fun c hc => by first | exact hc | (dsimp only at hc ⊢; omega) | omega)
                  have t_6402 : (I_6396 o 3).toInt = (I_5208 o 3).toInt := by rw [kp_6400 3 rfl]
                  have g_6403 : (0 : Int) ≤ (I_6396 o 4).toInt ∧ (I_6396 o 4).toInt ≤ 5 := hR_6398.at0 ra 4 (by decide)
                  have t_6404 : (I_6396 o 6).toInt = (I_5208 o 6).toInt := by rw [kp_6400 6 rfl]
                  have t_6405 : (I_6396 o 7).toInt = (I_5208 o 7).toInt := by rw [kp_6400 7 rfl]
                  have t_6406 : (I_6396 o 8).toInt = (I_5208 o 8).toInt := by rw [kp_6400 8 rfl]
                  have t_6407 : (I_6396 o 9).toInt = (I_5208 o 9).toInt := by rw [kp_6400 9 rfl]
                  have t_6408 : (I_6396 o 44).toInt = (I_5208 o 44).toInt := by rw [kp_6400 44 rfl]
                  have t_6409 : (I_6396 o 45).toInt = (I_5208 o 45).toInt := by rw [kp_6400 45 rfl]
                  have t_6410 : (I_6396 o 47).toInt = (I_5208 o 47).toInt := by rw [kp_6400 47 rfl]
                  have t_6411 : (I_6396 o 48).toInt = (I_5208 o 48).toInt := by rw [kp_6400 48 rfl]
                  have t_6412 : (I_6396 o 46).toInt = (I_5208 o 46).toInt := by rw [kp_6400 46 rfl]
                  have k_6413 : EX 0 0 0 f0 1 I_6396 o := k_5224.fr (fr_6399 _ (by first | omega | (dsimp only; omega))) (fr_6399 _ (by first | omega | (dsimp only; omega))) (fr_6399 _ (by first | omega | (dsimp only; omega))) (fr_6399 _ (by first | omega | (dsimp only; omega))) (fr_6399 _ (by first | omega | (dsimp only; omega))) (kp_6400 3 rfl) (kp_6400 6 rfl) (kp_6400 44 rfl) (kp_6400 45 rfl) (kp_6400 47 rfl) (kp_6400 48 rfl)
                  have k_6414 : MTd I_6396 o := k_5225.fr (fr_6399 _ (by first | omega | (dsimp only; omega))) (fr_6399 _ (by first | omega | (dsimp only; omega))) (fr_6399 _ (by first | omega | (dsimp only; omega)))
                  have k_6415 : MPo I_6396 o := k_5226.fr (kp_6400 8 rfl) (kp_6400 9 rfl)
                  have k_6416 : MTk I_6396 o := k_5227.fr (kp_6400 6 rfl) (kp_6400 7 rfl) (kp_6400 8 rfl)
                  refine y_Model_isGood hok hw ra hR_6398 (fun r_6417 u_6418 u_6419 u_6420 => ⟨r_6417, I_6396, L_6397, rfl, rfl, ?_⟩)
                  have b_6421 : 0 ≤ r_6417.toInt ∧ r_6417.toInt ≤ 1 := u_6418.rg
                  refine ⟨fun c_6422 => ?_, fun c_6422 => ?_⟩
                  · have d_6423 := iNe c_6422
                    have i_6424 := u_6419 (by omega)
                    have g_6425 : (0 : Int) ≤ (I_6396 o 46).toInt ∧ (I_6396 o 46).toInt ≤ 100 := hR_6398.at0 ra 46 (by decide)
                    have a_6426 : ((I_6396 o 46) + 1).toInt = (I_6396 o 46).toInt + (1 : Int32).toInt := tAdd (by omega) (by omega)
                    refine fun I_6427 e_6428 => ?_
                    have hR_6429 : RI R I_6427 := hR_6398.up0 (k := 46) ra (by decide) (Or.inr hz56) e_6428 (show (0 : Int) ≤ ((I_6396 o 46) + 1).toInt by omega) (show ((I_6396 o 46) + 1).toInt ≤ (100 : Int) by omega)
                    have hf_6430 : Fm (fun c => c = o ∨ (o + 30 ≤ c ∧ c < o + 34)) I0 I_6427 := hf_6401.set (by first | rfl | omega | (dsimp only; omega)) e_6428
                    have t_6431 : (I_6427 o 3).toInt = (I_6396 o 3).toInt := by rw [← e_6428, q_u_k (by decide)]
                    have t_6432 : (I_6427 o 4).toInt = (I_6396 o 4).toInt := by rw [← e_6428, q_u_k (by decide)]
                    have t_6433 : (I_6427 o 6).toInt = (I_6396 o 6).toInt := by rw [← e_6428, q_u_k (by decide)]
                    have t_6434 : (I_6427 o 7).toInt = (I_6396 o 7).toInt := by rw [← e_6428, q_u_k (by decide)]
                    have t_6435 : (I_6427 o 8).toInt = (I_6396 o 8).toInt := by rw [← e_6428, q_u_k (by decide)]
                    have t_6436 : (I_6427 o 9).toInt = (I_6396 o 9).toInt := by rw [← e_6428, q_u_k (by decide)]
                    have t_6437 : (I_6427 o 44).toInt = (I_6396 o 44).toInt := by rw [← e_6428, q_u_k (by decide)]
                    have t_6438 : (I_6427 o 45).toInt = (I_6396 o 45).toInt := by rw [← e_6428, q_u_k (by decide)]
                    have t_6439 : (I_6427 o 47).toInt = (I_6396 o 47).toInt := by rw [← e_6428, q_u_k (by decide)]
                    have t_6440 : (I_6427 o 48).toInt = (I_6396 o 48).toInt := by rw [← e_6428, q_u_k (by decide)]
                    have t_6441 : (I_6427 o 46).toInt = ((I_6396 o 46) + 1).toInt := by rw [← e_6428, q_u_at]
                    have k_6442 : EX 0 0 0 f0 1 I_6427 o := k_6413.fr (by rw [← e_6428]; exact q_u_ne (by omega)) (by rw [← e_6428]; exact q_u_ne (by omega)) (by rw [← e_6428]; exact q_u_ne (by omega)) (by rw [← e_6428]; exact q_u_ne (by omega)) (by rw [← e_6428]; exact q_u_ne (by omega)) (by rw [← e_6428, q_u_k (by decide)]) (by rw [← e_6428, q_u_k (by decide)]) (by rw [← e_6428, q_u_k (by decide)]) (by rw [← e_6428, q_u_k (by decide)]) (by rw [← e_6428, q_u_k (by decide)]) (by rw [← e_6428, q_u_k (by decide)])
                    have k_6443 : MTd I_6427 o := k_6414.fr (by rw [← e_6428]; exact q_u_ne (by omega)) (by rw [← e_6428]; exact q_u_ne (by omega)) (by rw [← e_6428]; exact q_u_ne (by omega))
                    have k_6444 : MPo I_6427 o := k_6415.fr (by rw [← e_6428, q_u_k (by decide)]) (by rw [← e_6428, q_u_k (by decide)])
                    have k_6445 : MTk I_6427 o := k_6416.fr (by rw [← e_6428, q_u_k (by decide)]) (by rw [← e_6428, q_u_k (by decide)]) (by rw [← e_6428, q_u_k (by decide)])
                    have l_6446 : (40 : Int32).toInt = 40 := rfl
                    refine y_Model_is hok hw ra hR_6429 (fun r_6447 u_6448 u_6449 u_6450 => ⟨r_6447, I_6427, L_6397, rfl, rfl, ?_⟩)
                    have b_6451 : 0 ≤ r_6447.toInt ∧ r_6447.toInt ≤ 1 := u_6448.rg
                    refine ⟨fun c_6452 => ?_, fun c_6452 => ?_⟩
                    · have d_6453 := iEq c_6452
                      have cd := k_6442.cod
                      have tk := k_6445.2 (by omega)
                      refine ⟨fun c_6454 => ?_, fun c_6454 => ?_⟩
                      · have d_6455 := iNe c_6454
                        have i_6456 := u_5205 (by omega)
                        have i_6457 := u_5206 (by omega)
                        exfalso; omega
                      · have d_6458 := iEq c_6454
                        unfold fModel_unit_228
                        have l_6459 : (78 : Int32).toInt = 78 := rfl
                        refine ⟨fun c_6460 => ?_, fun c_6460 => ?_⟩
                        · have d_6461 := iNe c_6460
                          have i_6462 := u_5205 (by omega)
                          have i_6463 := u_5206 (by omega)
                          exfalso; omega
                        · have d_6464 := iEq c_6460
                          refine y_Model_step hok hw ra hz55 (by first | omega | (intro h; omega) | exact Or.inl rfl | exact Or.inr rfl) (by first | omega | (intro h; omega) | exact Or.inl rfl | exact Or.inr rfl) hR_6429 (fun I_6468 L_6469 hR_6470 fr_6471 kp_6472 u_6466 u_6467 => ⟨I_6468, L_6469, rfl, rfl, ?_⟩)
                          have hf_6473 : Fm (fun c => c = o ∨ (o + 30 ≤ c ∧ c < o + 34)) I0 I_6468 := hf_6430.call fr_6471 (fun c hc => by first | exact hc | (dsimp only at hc ⊢; omega) | omega)
                          have t_6474 : (I_6468 o 3).toInt = (I_6427 o 3).toInt := by rw [kp_6472 3 rfl]
                          have t_6475 : (I_6468 o 4).toInt = (I_6427 o 4).toInt := by rw [kp_6472 4 rfl]
                          have t_6476 : (I_6468 o 6).toInt = (I_6427 o 6).toInt := by rw [kp_6472 6 rfl]
                          have t_6477 : (I_6468 o 7).toInt = (I_6427 o 7).toInt := by rw [kp_6472 7 rfl]
                          have t_6478 : (I_6468 o 8).toInt = (I_6427 o 8).toInt := by rw [kp_6472 8 rfl]
                          have t_6479 : (I_6468 o 9).toInt = (I_6427 o 9).toInt := by rw [kp_6472 9 rfl]
                          have t_6480 : (I_6468 o 44).toInt = (I_6427 o 44).toInt := by rw [kp_6472 44 rfl]
                          have g_6481 : (0 : Int) ≤ (I_6468 o 45).toInt ∧ (I_6468 o 45).toInt ≤ 700 := hR_6470.at0 ra 45 (by decide)
                          have t_6482 : (I_6468 o 47).toInt = (I_6427 o 47).toInt := by rw [kp_6472 47 rfl]
                          have t_6483 : (I_6468 o 48).toInt = (I_6427 o 48).toInt := by rw [kp_6472 48 rfl]
                          have t_6484 : (I_6468 o 46).toInt = (I_6427 o 46).toInt := by rw [kp_6472 46 rfl]
                          have k_6485 : MPo I_6468 o := k_6444.fr (kp_6472 8 rfl) (kp_6472 9 rfl)
                          have k_6486 : MTk I_6468 o := k_6445.fr (kp_6472 6 rfl) (kp_6472 7 rfl) (kp_6472 8 rfl)
                          have tk := k_6486.2 (by omega)
                          have k_6487 : EX 0 0 1 f0 0 I_6468 o := by exact EX.step1 k_6442 (by first | exact u_5205 (by omega) | (unfold isT; decide)) (by omega) (fr_6471 _ (by first | omega | (dsimp only; omega))) (fr_6471 _ (by first | omega | (dsimp only; omega))) u_6466 (fr_6471 _ (by first | omega | (dsimp only; omega))) (fr_6471 _ (by first | omega | (dsimp only; omega))) (kp_6472 3 rfl) (kp_6472 6 rfl) (kp_6472 44 rfl) u_6467 (kp_6472 47 rfl) (kp_6472 48 rfl)
                          have k_6488 : MTd I_6468 o := by exact MTd.step k_6443 (fr_6471 _ (by first | omega | (dsimp only; omega))) (fr_6471 _ (by first | omega | (dsimp only; omega))) u_6466 (by omega)
                          refine y_Model_next hok hw ra hz16 hz17 hz18 hz19 (by first | omega | (intro h; omega) | exact Or.inl rfl | exact Or.inr rfl) hR_6470 (fun I_6498 L_6499 hR_6500 fr_6501 kp_6502 u_6490 u_6491 u_6492 u_6493 u_6494 u_6495 u_6496 u_6497 => ⟨I_6498, L_6499, rfl, rfl, ?_⟩)
                          have hf_6503 : Fm (fun c => c = o ∨ (o + 30 ≤ c ∧ c < o + 34)) I0 I_6498 := hf_6473.call fr_6501 (fun c hc => by first | exact hc | (dsimp only at hc ⊢; omega) | omega)
                          have t_6504 : (I_6498 o 3).toInt = (I_6468 o 3).toInt := by rw [kp_6502 3 rfl]
                          have t_6505 : (I_6498 o 4).toInt = (I_6468 o 4).toInt := by rw [kp_6502 4 rfl]
                          have g_6506 : (0 : Int) ≤ (I_6498 o 6).toInt ∧ (I_6498 o 6).toInt ≤ 1600 := hR_6500.at0 ra 6 (by decide)
                          have g_6507 : (0 : Int) ≤ (I_6498 o 7).toInt ∧ (I_6498 o 7).toInt ≤ 1601 := hR_6500.at0 ra 7 (by decide)
                          have g_6508 : (0 : Int) ≤ (I_6498 o 8).toInt ∧ (I_6498 o 8).toInt ≤ 6 := hR_6500.at0 ra 8 (by decide)
                          have t_6509 : (I_6498 o 44).toInt = (I_6468 o 44).toInt := by rw [kp_6502 44 rfl]
                          have t_6510 : (I_6498 o 45).toInt = (I_6468 o 45).toInt := by rw [kp_6502 45 rfl]
                          have t_6511 : (I_6498 o 47).toInt = (I_6468 o 47).toInt := by rw [kp_6502 47 rfl]
                          have t_6512 : (I_6498 o 48).toInt = (I_6468 o 48).toInt := by rw [kp_6502 48 rfl]
                          have t_6513 : (I_6498 o 46).toInt = (I_6468 o 46).toInt := by rw [kp_6502 46 rfl]
                          have k_6514 : MTd I_6498 o := k_6488.fr (fr_6501 _ (by first | omega | (dsimp only; omega))) (fr_6501 _ (by first | omega | (dsimp only; omega))) (fr_6501 _ (by first | omega | (dsimp only; omega)))
                          have ms := u_6493 (by omega)
                          have k_6515 : EX 0 0 0 f0 0 I_6498 o := by exact EX.nx k_6487 (fr_6501 _ (by first | omega | (dsimp only; omega))) (fr_6501 _ (by first | omega | (dsimp only; omega))) (fr_6501 _ (by first | omega | (dsimp only; omega))) (fr_6501 _ (by first | omega | (dsimp only; omega))) (fr_6501 _ (by first | omega | (dsimp only; omega))) (kp_6502 3 rfl) (kp_6502 44 rfl) (kp_6502 45 rfl) (kp_6502 47 rfl) (kp_6502 48 rfl) (by omega) (by omega)
                          exact (hp _ _ _ hR_6500 hf_6503 (Or.inl rfl) (by first | omega | (intro h; omega) | exact Or.inl rfl | exact Or.inr rfl) (by first | omega | (intro h; omega) | exact Or.inl rfl | exact Or.inr rfl) (by first | omega | (intro h; omega) | exact Or.inl rfl | exact Or.inr rfl) (by first | omega | (intro h; omega) | exact Or.inl rfl | exact Or.inr rfl) (by first | omega | (intro h; omega) | exact Or.inl rfl | exact Or.inr rfl) (by first | (intro h; exfalso; omega) | exact fun _ => (False.elim (by omega)) | exact fun _ => k_6515) k_6514 u_6496 u_6497)
                    · have d_6516 := iNe c_6452
                      have i_6517 := u_6449 (by omega)
                      have i_6518 := u_6450 (by omega)
                      have g_6519 : (0 : Int) ≤ (I_6427 o 47).toInt ∧ (I_6427 o 47).toInt ≤ 7 := hR_6429.at0 ra 47 (by decide)
                      refine ⟨fun c_6520 => ?_, fun c_6520 => ?_⟩
                      · have d_6521 := iNe c_6520
                        refine y_Model_isGood hok hw ra hR_6429 (fun r_6522 u_6523 u_6524 u_6525 => ⟨r_6522, I_6427, L_6397, rfl, rfl, ?_⟩)
                        have b_6526 : 0 ≤ r_6522.toInt ∧ r_6522.toInt ≤ 1 := u_6523.rg
                        refine ⟨fun c_6527 => ?_, fun c_6527 => ?_⟩
                        · have d_6528 := iNe c_6527
                          have i_6529 := u_6524 (by omega)
                          refine y_Model_pile hok hw ra hz58 (by first | omega | (intro h; omega) | exact Or.inl rfl | exact Or.inr rfl) (by first | omega | (intro h; omega) | exact Or.inl rfl | exact Or.inr rfl) hR_6429 (fun I_6534 L_6535 hR_6536 fr_6537 kp_6538 u_6531 u_6532 u_6533 => ⟨I_6534, L_6535, rfl, rfl, ?_⟩)
                          have hf_6539 : Fm (fun c => c = o ∨ (o + 30 ≤ c ∧ c < o + 34)) I0 I_6534 := hf_6430.call fr_6537 (fun c hc => by first | exact hc | (dsimp only at hc ⊢; omega) | omega)
                          have t_6540 : (I_6534 o 3).toInt = (I_6427 o 3).toInt := by rw [kp_6538 3 rfl]
                          have t_6541 : (I_6534 o 4).toInt = (I_6427 o 4).toInt := by rw [kp_6538 4 rfl]
                          have t_6542 : (I_6534 o 6).toInt = (I_6427 o 6).toInt := by rw [kp_6538 6 rfl]
                          have t_6543 : (I_6534 o 7).toInt = (I_6427 o 7).toInt := by rw [kp_6538 7 rfl]
                          have t_6544 : (I_6534 o 8).toInt = (I_6427 o 8).toInt := by rw [kp_6538 8 rfl]
                          have t_6545 : (I_6534 o 9).toInt = (I_6427 o 9).toInt := by rw [kp_6538 9 rfl]
                          have t_6546 : (I_6534 o 44).toInt = (I_6427 o 44).toInt := by rw [kp_6538 44 rfl]
                          have t_6547 : (I_6534 o 45).toInt = (I_6427 o 45).toInt := by rw [kp_6538 45 rfl]
                          have t_6548 : (I_6534 o 47).toInt = (I_6427 o 47).toInt := by rw [kp_6538 47 rfl]
                          have g_6549 : (0 : Int) ≤ (I_6534 o 48).toInt ∧ (I_6534 o 48).toInt ≤ 80 := hR_6536.at0 ra 48 (by decide)
                          have t_6550 : (I_6534 o 46).toInt = (I_6427 o 46).toInt := by rw [kp_6538 46 rfl]
                          have k_6551 : MTd I_6534 o := k_6443.fr (fr_6537 _ (by first | omega | (dsimp only; omega))) (fr_6537 _ (by first | omega | (dsimp only; omega))) (fr_6537 _ (by first | omega | (dsimp only; omega)))
                          have k_6552 : MPo I_6534 o := k_6444.fr (kp_6538 8 rfl) (kp_6538 9 rfl)
                          have k_6553 : MTk I_6534 o := k_6445.fr (kp_6538 6 rfl) (kp_6538 7 rfl) (kp_6538 8 rfl)
                          have k_6554 : EX 0 1 1 f0 1 I_6534 o := by have z := EX.push k_6442 (v := 7) (s := 0) (dB := 1) (dO := 0) (wt' := 1) (by decide) (by decide) (by decide) (by omega) ⟨by decide, by decide⟩ ⟨fun h => absurd h (by decide), fun h => absurd h (by decide)⟩ (Or.inl rfl) (fr_6537 _ (by first | omega | (dsimp only; omega))) (fr_6537 _ (by first | omega | (dsimp only; omega))) (fr_6537 _ (by first | omega | (dsimp only; omega))) u_6531 u_6532 (kp_6538 3 rfl) (kp_6538 6 rfl) (kp_6538 44 rfl) (kp_6538 45 rfl) (kp_6538 47 rfl) u_6533; exact EX.chg (b' := 1) z rfl rfl rfl rfl rfl rfl rfl rfl rfl rfl (by omega) z.pl
                          have g_6555 : (0 : Int) ≤ (I_6534 o 47).toInt ∧ (I_6534 o 47).toInt ≤ 7 := hR_6536.at0 ra 47 (by decide)
                          have a_6556 : ((I_6534 o 47) + 1).toInt = (I_6534 o 47).toInt + (1 : Int32).toInt := tAdd (by omega) (by omega)
                          refine fun I_6557 e_6558 => ?_
                          have hR_6559 : RI R I_6557 := hR_6536.up0 (k := 47) ra (by decide) (Or.inr hz57) e_6558 (show (0 : Int) ≤ ((I_6534 o 47) + 1).toInt by omega) (show ((I_6534 o 47) + 1).toInt ≤ (7 : Int) by omega)
                          have hf_6560 : Fm (fun c => c = o ∨ (o + 30 ≤ c ∧ c < o + 34)) I0 I_6557 := hf_6539.set (by first | rfl | omega | (dsimp only; omega)) e_6558
                          have t_6561 : (I_6557 o 3).toInt = (I_6534 o 3).toInt := by rw [← e_6558, q_u_k (by decide)]
                          have t_6562 : (I_6557 o 4).toInt = (I_6534 o 4).toInt := by rw [← e_6558, q_u_k (by decide)]
                          have t_6563 : (I_6557 o 6).toInt = (I_6534 o 6).toInt := by rw [← e_6558, q_u_k (by decide)]
                          have t_6564 : (I_6557 o 7).toInt = (I_6534 o 7).toInt := by rw [← e_6558, q_u_k (by decide)]
                          have t_6565 : (I_6557 o 8).toInt = (I_6534 o 8).toInt := by rw [← e_6558, q_u_k (by decide)]
                          have t_6566 : (I_6557 o 9).toInt = (I_6534 o 9).toInt := by rw [← e_6558, q_u_k (by decide)]
                          have t_6567 : (I_6557 o 44).toInt = (I_6534 o 44).toInt := by rw [← e_6558, q_u_k (by decide)]
                          have t_6568 : (I_6557 o 45).toInt = (I_6534 o 45).toInt := by rw [← e_6558, q_u_k (by decide)]
                          have t_6569 : (I_6557 o 47).toInt = ((I_6534 o 47) + 1).toInt := by rw [← e_6558, q_u_at]
                          have t_6570 : (I_6557 o 48).toInt = (I_6534 o 48).toInt := by rw [← e_6558, q_u_k (by decide)]
                          have t_6571 : (I_6557 o 46).toInt = (I_6534 o 46).toInt := by rw [← e_6558, q_u_k (by decide)]
                          have k_6572 : MTd I_6557 o := k_6551.fr (by rw [← e_6558]; exact q_u_ne (by omega)) (by rw [← e_6558]; exact q_u_ne (by omega)) (by rw [← e_6558]; exact q_u_ne (by omega))
                          have k_6573 : MPo I_6557 o := k_6552.fr (by rw [← e_6558, q_u_k (by decide)]) (by rw [← e_6558, q_u_k (by decide)])
                          have k_6574 : MTk I_6557 o := k_6553.fr (by rw [← e_6558, q_u_k (by decide)]) (by rw [← e_6558, q_u_k (by decide)]) (by rw [← e_6558, q_u_k (by decide)])
                          have tk := k_6574.2 (by omega)
                          have k_6576 : EX 0 0 1 f0 1 I_6557 o := by exact EX.put47 k_6554 e_6558 (by omega)
                          refine y_Model_next hok hw ra hz16 hz17 hz18 hz19 (by first | omega | (intro h; omega) | exact Or.inl rfl | exact Or.inr rfl) hR_6559 (fun I_6586 L_6587 hR_6588 fr_6589 kp_6590 u_6578 u_6579 u_6580 u_6581 u_6582 u_6583 u_6584 u_6585 => ⟨I_6586, L_6587, rfl, rfl, ?_⟩)
                          have hf_6591 : Fm (fun c => c = o ∨ (o + 30 ≤ c ∧ c < o + 34)) I0 I_6586 := hf_6560.call fr_6589 (fun c hc => by first | exact hc | (dsimp only at hc ⊢; omega) | omega)
                          have t_6592 : (I_6586 o 3).toInt = (I_6557 o 3).toInt := by rw [kp_6590 3 rfl]
                          have t_6593 : (I_6586 o 4).toInt = (I_6557 o 4).toInt := by rw [kp_6590 4 rfl]
                          have g_6594 : (0 : Int) ≤ (I_6586 o 6).toInt ∧ (I_6586 o 6).toInt ≤ 1600 := hR_6588.at0 ra 6 (by decide)
                          have g_6595 : (0 : Int) ≤ (I_6586 o 7).toInt ∧ (I_6586 o 7).toInt ≤ 1601 := hR_6588.at0 ra 7 (by decide)
                          have g_6596 : (0 : Int) ≤ (I_6586 o 8).toInt ∧ (I_6586 o 8).toInt ≤ 6 := hR_6588.at0 ra 8 (by decide)
                          have t_6597 : (I_6586 o 44).toInt = (I_6557 o 44).toInt := by rw [kp_6590 44 rfl]
                          have t_6598 : (I_6586 o 45).toInt = (I_6557 o 45).toInt := by rw [kp_6590 45 rfl]
                          have t_6599 : (I_6586 o 47).toInt = (I_6557 o 47).toInt := by rw [kp_6590 47 rfl]
                          have t_6600 : (I_6586 o 48).toInt = (I_6557 o 48).toInt := by rw [kp_6590 48 rfl]
                          have t_6601 : (I_6586 o 46).toInt = (I_6557 o 46).toInt := by rw [kp_6590 46 rfl]
                          have k_6602 : MTd I_6586 o := k_6572.fr (fr_6589 _ (by first | omega | (dsimp only; omega))) (fr_6589 _ (by first | omega | (dsimp only; omega))) (fr_6589 _ (by first | omega | (dsimp only; omega)))
                          have ms := u_6581 (by omega)
                          have k_6603 : EX 0 0 0 f0 1 I_6586 o := by exact EX.nx k_6576 (fr_6589 _ (by first | omega | (dsimp only; omega))) (fr_6589 _ (by first | omega | (dsimp only; omega))) (fr_6589 _ (by first | omega | (dsimp only; omega))) (fr_6589 _ (by first | omega | (dsimp only; omega))) (fr_6589 _ (by first | omega | (dsimp only; omega))) (kp_6590 3 rfl) (kp_6590 44 rfl) (kp_6590 45 rfl) (kp_6590 47 rfl) (kp_6590 48 rfl) (by omega) (by omega)
                          exact (hp _ _ _ hR_6588 hf_6591 (Or.inr rfl) (by first | omega | (intro h; omega) | exact Or.inl rfl | exact Or.inr rfl) (by first | omega | (intro h; omega) | exact Or.inl rfl | exact Or.inr rfl) (by first | omega | (intro h; omega) | exact Or.inl rfl | exact Or.inr rfl) (by first | omega | (intro h; omega) | exact Or.inl rfl | exact Or.inr rfl) (by first | omega | (intro h; omega) | exact Or.inl rfl | exact Or.inr rfl) (by first | (intro h; exfalso; omega) | exact fun _ => k_6603 | exact fun _ => (False.elim (by omega))) k_6602 u_6584 u_6585)
                        · have d_6604 := iEq c_6527
                          have i_6605 := u_6525 (by omega)
                          exact (hp _ _ _ hR_6429 hf_6430 (Or.inr rfl) (by first | omega | (intro h; omega) | exact Or.inl rfl | exact Or.inr rfl) (by first | omega | (intro h; omega) | exact Or.inl rfl | exact Or.inr rfl) (by first | omega | (intro h; omega) | exact Or.inl rfl | exact Or.inr rfl) (by first | omega | (intro h; omega) | exact Or.inl rfl | exact Or.inr rfl) (by first | omega | (intro h; omega) | exact Or.inl rfl | exact Or.inr rfl) (by first | (intro h; exfalso; omega) | exact fun _ => k_6442 | exact fun _ => (False.elim (by omega))) k_6443 k_6444 k_6445)
                      · have d_6606 := iEq c_6520
                        refine y_Model_wrong hok hw ra hz14 hz15 hR_6429 (fun I_6610 L_6611 hR_6612 fr_6613 kp_6614 u_6608 u_6609 => ⟨I_6610, L_6611, rfl, rfl, ?_⟩)
                        have hf_6615 : Fm (fun c => c = o ∨ (o + 30 ≤ c ∧ c < o + 34)) I0 I_6610 := hf_6430.call fr_6613 (fun c hc => by first | exact hc | (dsimp only at hc ⊢; omega) | omega)
                        have t_6616 : (I_6610 o 3).toInt = (I_6427 o 3).toInt := by rw [kp_6614 3 rfl]
                        have g_6617 : (0 : Int) ≤ (I_6610 o 4).toInt ∧ (I_6610 o 4).toInt ≤ 5 := hR_6612.at0 ra 4 (by decide)
                        have t_6618 : (I_6610 o 6).toInt = (I_6427 o 6).toInt := by rw [kp_6614 6 rfl]
                        have t_6619 : (I_6610 o 7).toInt = (I_6427 o 7).toInt := by rw [kp_6614 7 rfl]
                        have t_6620 : (I_6610 o 8).toInt = (I_6427 o 8).toInt := by rw [kp_6614 8 rfl]
                        have t_6621 : (I_6610 o 9).toInt = (I_6427 o 9).toInt := by rw [kp_6614 9 rfl]
                        have t_6622 : (I_6610 o 44).toInt = (I_6427 o 44).toInt := by rw [kp_6614 44 rfl]
                        have t_6623 : (I_6610 o 45).toInt = (I_6427 o 45).toInt := by rw [kp_6614 45 rfl]
                        have t_6624 : (I_6610 o 47).toInt = (I_6427 o 47).toInt := by rw [kp_6614 47 rfl]
                        have t_6625 : (I_6610 o 48).toInt = (I_6427 o 48).toInt := by rw [kp_6614 48 rfl]
                        have t_6626 : (I_6610 o 46).toInt = (I_6427 o 46).toInt := by rw [kp_6614 46 rfl]
                        have k_6627 : EX 0 0 0 f0 1 I_6610 o := k_6442.fr (fr_6613 _ (by first | omega | (dsimp only; omega))) (fr_6613 _ (by first | omega | (dsimp only; omega))) (fr_6613 _ (by first | omega | (dsimp only; omega))) (fr_6613 _ (by first | omega | (dsimp only; omega))) (fr_6613 _ (by first | omega | (dsimp only; omega))) (kp_6614 3 rfl) (kp_6614 6 rfl) (kp_6614 44 rfl) (kp_6614 45 rfl) (kp_6614 47 rfl) (kp_6614 48 rfl)
                        have k_6628 : MTd I_6610 o := k_6443.fr (fr_6613 _ (by first | omega | (dsimp only; omega))) (fr_6613 _ (by first | omega | (dsimp only; omega))) (fr_6613 _ (by first | omega | (dsimp only; omega)))
                        have k_6629 : MPo I_6610 o := k_6444.fr (kp_6614 8 rfl) (kp_6614 9 rfl)
                        have k_6630 : MTk I_6610 o := k_6445.fr (kp_6614 6 rfl) (kp_6614 7 rfl) (kp_6614 8 rfl)
                        refine y_Model_isGood hok hw ra hR_6612 (fun r_6631 u_6632 u_6633 u_6634 => ⟨r_6631, I_6610, L_6611, rfl, rfl, ?_⟩)
                        have b_6635 : 0 ≤ r_6631.toInt ∧ r_6631.toInt ≤ 1 := u_6632.rg
                        refine ⟨fun c_6636 => ?_, fun c_6636 => ?_⟩
                        · have d_6637 := iNe c_6636
                          have i_6638 := u_6633 (by omega)
                          refine y_Model_pile hok hw ra hz58 (by first | omega | (intro h; omega) | exact Or.inl rfl | exact Or.inr rfl) (by first | omega | (intro h; omega) | exact Or.inl rfl | exact Or.inr rfl) hR_6612 (fun I_6643 L_6644 hR_6645 fr_6646 kp_6647 u_6640 u_6641 u_6642 => ⟨I_6643, L_6644, rfl, rfl, ?_⟩)
                          have hf_6648 : Fm (fun c => c = o ∨ (o + 30 ≤ c ∧ c < o + 34)) I0 I_6643 := hf_6615.call fr_6646 (fun c hc => by first | exact hc | (dsimp only at hc ⊢; omega) | omega)
                          have t_6649 : (I_6643 o 3).toInt = (I_6610 o 3).toInt := by rw [kp_6647 3 rfl]
                          have t_6650 : (I_6643 o 4).toInt = (I_6610 o 4).toInt := by rw [kp_6647 4 rfl]
                          have t_6651 : (I_6643 o 6).toInt = (I_6610 o 6).toInt := by rw [kp_6647 6 rfl]
                          have t_6652 : (I_6643 o 7).toInt = (I_6610 o 7).toInt := by rw [kp_6647 7 rfl]
                          have t_6653 : (I_6643 o 8).toInt = (I_6610 o 8).toInt := by rw [kp_6647 8 rfl]
                          have t_6654 : (I_6643 o 9).toInt = (I_6610 o 9).toInt := by rw [kp_6647 9 rfl]
                          have t_6655 : (I_6643 o 44).toInt = (I_6610 o 44).toInt := by rw [kp_6647 44 rfl]
                          have t_6656 : (I_6643 o 45).toInt = (I_6610 o 45).toInt := by rw [kp_6647 45 rfl]
                          have t_6657 : (I_6643 o 47).toInt = (I_6610 o 47).toInt := by rw [kp_6647 47 rfl]
                          have g_6658 : (0 : Int) ≤ (I_6643 o 48).toInt ∧ (I_6643 o 48).toInt ≤ 80 := hR_6645.at0 ra 48 (by decide)
                          have t_6659 : (I_6643 o 46).toInt = (I_6610 o 46).toInt := by rw [kp_6647 46 rfl]
                          have k_6660 : MTd I_6643 o := k_6628.fr (fr_6646 _ (by first | omega | (dsimp only; omega))) (fr_6646 _ (by first | omega | (dsimp only; omega))) (fr_6646 _ (by first | omega | (dsimp only; omega)))
                          have k_6661 : MPo I_6643 o := k_6629.fr (kp_6647 8 rfl) (kp_6647 9 rfl)
                          have k_6662 : MTk I_6643 o := k_6630.fr (kp_6647 6 rfl) (kp_6647 7 rfl) (kp_6647 8 rfl)
                          have k_6663 : EX 0 1 1 f0 1 I_6643 o := by have z := EX.push k_6627 (v := 7) (s := 0) (dB := 1) (dO := 0) (wt' := 1) (by decide) (by decide) (by decide) (by omega) ⟨by decide, by decide⟩ ⟨fun h => absurd h (by decide), fun h => absurd h (by decide)⟩ (Or.inl rfl) (fr_6646 _ (by first | omega | (dsimp only; omega))) (fr_6646 _ (by first | omega | (dsimp only; omega))) (fr_6646 _ (by first | omega | (dsimp only; omega))) u_6640 u_6641 (kp_6647 3 rfl) (kp_6647 6 rfl) (kp_6647 44 rfl) (kp_6647 45 rfl) (kp_6647 47 rfl) u_6642; exact EX.chg (b' := 1) z rfl rfl rfl rfl rfl rfl rfl rfl rfl rfl (by omega) z.pl
                          have g_6664 : (0 : Int) ≤ (I_6643 o 47).toInt ∧ (I_6643 o 47).toInt ≤ 7 := hR_6645.at0 ra 47 (by decide)
                          have a_6665 : ((I_6643 o 47) + 1).toInt = (I_6643 o 47).toInt + (1 : Int32).toInt := tAdd (by omega) (by omega)
                          refine fun I_6666 e_6667 => ?_
                          have hR_6668 : RI R I_6666 := hR_6645.up0 (k := 47) ra (by decide) (Or.inr hz57) e_6667 (show (0 : Int) ≤ ((I_6643 o 47) + 1).toInt by omega) (show ((I_6643 o 47) + 1).toInt ≤ (7 : Int) by omega)
                          have hf_6669 : Fm (fun c => c = o ∨ (o + 30 ≤ c ∧ c < o + 34)) I0 I_6666 := hf_6648.set (by first | rfl | omega | (dsimp only; omega)) e_6667
                          have t_6670 : (I_6666 o 3).toInt = (I_6643 o 3).toInt := by rw [← e_6667, q_u_k (by decide)]
                          have t_6671 : (I_6666 o 4).toInt = (I_6643 o 4).toInt := by rw [← e_6667, q_u_k (by decide)]
                          have t_6672 : (I_6666 o 6).toInt = (I_6643 o 6).toInt := by rw [← e_6667, q_u_k (by decide)]
                          have t_6673 : (I_6666 o 7).toInt = (I_6643 o 7).toInt := by rw [← e_6667, q_u_k (by decide)]
                          have t_6674 : (I_6666 o 8).toInt = (I_6643 o 8).toInt := by rw [← e_6667, q_u_k (by decide)]
                          have t_6675 : (I_6666 o 9).toInt = (I_6643 o 9).toInt := by rw [← e_6667, q_u_k (by decide)]
                          have t_6676 : (I_6666 o 44).toInt = (I_6643 o 44).toInt := by rw [← e_6667, q_u_k (by decide)]
                          have t_6677 : (I_6666 o 45).toInt = (I_6643 o 45).toInt := by rw [← e_6667, q_u_k (by decide)]
                          have t_6678 : (I_6666 o 47).toInt = ((I_6643 o 47) + 1).toInt := by rw [← e_6667, q_u_at]
                          have t_6679 : (I_6666 o 48).toInt = (I_6643 o 48).toInt := by rw [← e_6667, q_u_k (by decide)]
                          have t_6680 : (I_6666 o 46).toInt = (I_6643 o 46).toInt := by rw [← e_6667, q_u_k (by decide)]
                          have k_6681 : MTd I_6666 o := k_6660.fr (by rw [← e_6667]; exact q_u_ne (by omega)) (by rw [← e_6667]; exact q_u_ne (by omega)) (by rw [← e_6667]; exact q_u_ne (by omega))
                          have k_6682 : MPo I_6666 o := k_6661.fr (by rw [← e_6667, q_u_k (by decide)]) (by rw [← e_6667, q_u_k (by decide)])
                          have k_6683 : MTk I_6666 o := k_6662.fr (by rw [← e_6667, q_u_k (by decide)]) (by rw [← e_6667, q_u_k (by decide)]) (by rw [← e_6667, q_u_k (by decide)])
                          have tk := k_6683.2 (by omega)
                          have k_6685 : EX 0 0 1 f0 1 I_6666 o := by exact EX.put47 k_6663 e_6667 (by omega)
                          refine y_Model_next hok hw ra hz16 hz17 hz18 hz19 (by first | omega | (intro h; omega) | exact Or.inl rfl | exact Or.inr rfl) hR_6668 (fun I_6695 L_6696 hR_6697 fr_6698 kp_6699 u_6687 u_6688 u_6689 u_6690 u_6691 u_6692 u_6693 u_6694 => ⟨I_6695, L_6696, rfl, rfl, ?_⟩)
                          have hf_6700 : Fm (fun c => c = o ∨ (o + 30 ≤ c ∧ c < o + 34)) I0 I_6695 := hf_6669.call fr_6698 (fun c hc => by first | exact hc | (dsimp only at hc ⊢; omega) | omega)
                          have t_6701 : (I_6695 o 3).toInt = (I_6666 o 3).toInt := by rw [kp_6699 3 rfl]
                          have t_6702 : (I_6695 o 4).toInt = (I_6666 o 4).toInt := by rw [kp_6699 4 rfl]
                          have g_6703 : (0 : Int) ≤ (I_6695 o 6).toInt ∧ (I_6695 o 6).toInt ≤ 1600 := hR_6697.at0 ra 6 (by decide)
                          have g_6704 : (0 : Int) ≤ (I_6695 o 7).toInt ∧ (I_6695 o 7).toInt ≤ 1601 := hR_6697.at0 ra 7 (by decide)
                          have g_6705 : (0 : Int) ≤ (I_6695 o 8).toInt ∧ (I_6695 o 8).toInt ≤ 6 := hR_6697.at0 ra 8 (by decide)
                          have t_6706 : (I_6695 o 44).toInt = (I_6666 o 44).toInt := by rw [kp_6699 44 rfl]
                          have t_6707 : (I_6695 o 45).toInt = (I_6666 o 45).toInt := by rw [kp_6699 45 rfl]
                          have t_6708 : (I_6695 o 47).toInt = (I_6666 o 47).toInt := by rw [kp_6699 47 rfl]
                          have t_6709 : (I_6695 o 48).toInt = (I_6666 o 48).toInt := by rw [kp_6699 48 rfl]
                          have t_6710 : (I_6695 o 46).toInt = (I_6666 o 46).toInt := by rw [kp_6699 46 rfl]
                          have k_6711 : MTd I_6695 o := k_6681.fr (fr_6698 _ (by first | omega | (dsimp only; omega))) (fr_6698 _ (by first | omega | (dsimp only; omega))) (fr_6698 _ (by first | omega | (dsimp only; omega)))
                          have ms := u_6690 (by omega)
                          have k_6712 : EX 0 0 0 f0 1 I_6695 o := by exact EX.nx k_6685 (fr_6698 _ (by first | omega | (dsimp only; omega))) (fr_6698 _ (by first | omega | (dsimp only; omega))) (fr_6698 _ (by first | omega | (dsimp only; omega))) (fr_6698 _ (by first | omega | (dsimp only; omega))) (fr_6698 _ (by first | omega | (dsimp only; omega))) (kp_6699 3 rfl) (kp_6699 44 rfl) (kp_6699 45 rfl) (kp_6699 47 rfl) (kp_6699 48 rfl) (by omega) (by omega)
                          exact (hp _ _ _ hR_6697 hf_6700 (Or.inr rfl) (by first | omega | (intro h; omega) | exact Or.inl rfl | exact Or.inr rfl) (by first | omega | (intro h; omega) | exact Or.inl rfl | exact Or.inr rfl) (by first | omega | (intro h; omega) | exact Or.inl rfl | exact Or.inr rfl) (by first | omega | (intro h; omega) | exact Or.inl rfl | exact Or.inr rfl) (by first | omega | (intro h; omega) | exact Or.inl rfl | exact Or.inr rfl) (by first | (intro h; exfalso; omega) | exact fun _ => k_6712 | exact fun _ => (False.elim (by omega))) k_6711 u_6693 u_6694)
                        · have d_6713 := iEq c_6636
                          have i_6714 := u_6634 (by omega)
                          exact (hp _ _ _ hR_6612 hf_6615 (Or.inr rfl) (by first | omega | (intro h; omega) | exact Or.inl rfl | exact Or.inr rfl) (by first | omega | (intro h; omega) | exact Or.inl rfl | exact Or.inr rfl) (by first | omega | (intro h; omega) | exact Or.inl rfl | exact Or.inr rfl) (by first | omega | (intro h; omega) | exact Or.inl rfl | exact Or.inr rfl) (by first | omega | (intro h; omega) | exact Or.inl rfl | exact Or.inr rfl) (by first | (intro h; exfalso; omega) | exact fun _ => k_6627 | exact fun _ => (False.elim (by omega))) k_6628 k_6629 k_6630)
                  · have d_6715 := iEq c_6422
                    have i_6716 := u_6420 (by omega)
                    exact (hp _ _ _ hR_6398 hf_6401 (Or.inr rfl) (by first | omega | (intro h; omega) | exact Or.inl rfl | exact Or.inr rfl) (by first | omega | (intro h; omega) | exact Or.inl rfl | exact Or.inr rfl) (by first | omega | (intro h; omega) | exact Or.inl rfl | exact Or.inr rfl) (by first | omega | (intro h; omega) | exact Or.inl rfl | exact Or.inr rfl) (by first | omega | (intro h; omega) | exact Or.inl rfl | exact Or.inr rfl) (by first | (intro h; exfalso; omega) | exact fun _ => k_6413 | exact fun _ => (False.elim (by omega))) k_6414 k_6415 k_6416)
              · have d_6717 := iNe c_6086
                have l_6718 : (40 : Int32).toInt = 40 := rfl
                refine y_Model_is hok hw ra hR_5210 (fun r_6719 u_6720 u_6721 u_6722 => ⟨r_6719, I_5208, L_5209, rfl, rfl, ?_⟩)
                have b_6723 : 0 ≤ r_6719.toInt ∧ r_6719.toInt ≤ 1 := u_6720.rg
                refine ⟨fun c_6724 => ?_, fun c_6724 => ?_⟩
                · have d_6725 := iEq c_6724
                  unfold fModel_unit_140
                  refine y_Model_wrong hok hw ra hz14 hz15 hR_5210 (fun I_6729 L_6730 hR_6731 fr_6732 kp_6733 u_6727 u_6728 => ⟨I_6729, L_6730, rfl, rfl, ?_⟩)
                  have hf_6734 : Fm (fun c => c = o ∨ (o + 30 ≤ c ∧ c < o + 34)) I0 I_6729 := hf_5213.call fr_6732 (fun c hc => by first | exact hc | (dsimp only at hc ⊢; omega) | omega)
                  have t_6735 : (I_6729 o 3).toInt = (I_5208 o 3).toInt := by rw [kp_6733 3 rfl]
                  have g_6736 : (0 : Int) ≤ (I_6729 o 4).toInt ∧ (I_6729 o 4).toInt ≤ 5 := hR_6731.at0 ra 4 (by decide)
                  have t_6737 : (I_6729 o 6).toInt = (I_5208 o 6).toInt := by rw [kp_6733 6 rfl]
                  have t_6738 : (I_6729 o 7).toInt = (I_5208 o 7).toInt := by rw [kp_6733 7 rfl]
                  have t_6739 : (I_6729 o 8).toInt = (I_5208 o 8).toInt := by rw [kp_6733 8 rfl]
                  have t_6740 : (I_6729 o 9).toInt = (I_5208 o 9).toInt := by rw [kp_6733 9 rfl]
                  have t_6741 : (I_6729 o 44).toInt = (I_5208 o 44).toInt := by rw [kp_6733 44 rfl]
                  have t_6742 : (I_6729 o 45).toInt = (I_5208 o 45).toInt := by rw [kp_6733 45 rfl]
                  have t_6743 : (I_6729 o 47).toInt = (I_5208 o 47).toInt := by rw [kp_6733 47 rfl]
                  have t_6744 : (I_6729 o 48).toInt = (I_5208 o 48).toInt := by rw [kp_6733 48 rfl]
                  have k_6745 : EX 0 0 0 f0 1 I_6729 o := k_5224.fr (fr_6732 _ (by first | omega | (dsimp only; omega))) (fr_6732 _ (by first | omega | (dsimp only; omega))) (fr_6732 _ (by first | omega | (dsimp only; omega))) (fr_6732 _ (by first | omega | (dsimp only; omega))) (fr_6732 _ (by first | omega | (dsimp only; omega))) (kp_6733 3 rfl) (kp_6733 6 rfl) (kp_6733 44 rfl) (kp_6733 45 rfl) (kp_6733 47 rfl) (kp_6733 48 rfl)
                  have k_6746 : MTd I_6729 o := k_5225.fr (fr_6732 _ (by first | omega | (dsimp only; omega))) (fr_6732 _ (by first | omega | (dsimp only; omega))) (fr_6732 _ (by first | omega | (dsimp only; omega)))
                  have k_6747 : MPo I_6729 o := k_5226.fr (kp_6733 8 rfl) (kp_6733 9 rfl)
                  have k_6748 : MTk I_6729 o := k_5227.fr (kp_6733 6 rfl) (kp_6733 7 rfl) (kp_6733 8 rfl)
                  refine y_Model_isGood hok hw ra hR_6731 (fun r_6749 u_6750 u_6751 u_6752 => ⟨r_6749, I_6729, L_6730, rfl, rfl, ?_⟩)
                  have b_6753 : 0 ≤ r_6749.toInt ∧ r_6749.toInt ≤ 1 := u_6750.rg
                  refine ⟨fun c_6754 => ?_, fun c_6754 => ?_⟩
                  · have d_6755 := iNe c_6754
                    have i_6756 := u_6751 (by omega)
                    have g_6757 : (0 : Int) ≤ (I_6729 o 46).toInt ∧ (I_6729 o 46).toInt ≤ 100 := hR_6731.at0 ra 46 (by decide)
                    have a_6758 : ((I_6729 o 46) + 1).toInt = (I_6729 o 46).toInt + (1 : Int32).toInt := tAdd (by omega) (by omega)
                    refine fun I_6759 e_6760 => ?_
                    have hR_6761 : RI R I_6759 := hR_6731.up0 (k := 46) ra (by decide) (Or.inr hz56) e_6760 (show (0 : Int) ≤ ((I_6729 o 46) + 1).toInt by omega) (show ((I_6729 o 46) + 1).toInt ≤ (100 : Int) by omega)
                    have hf_6762 : Fm (fun c => c = o ∨ (o + 30 ≤ c ∧ c < o + 34)) I0 I_6759 := hf_6734.set (by first | rfl | omega | (dsimp only; omega)) e_6760
                    have t_6763 : (I_6759 o 3).toInt = (I_6729 o 3).toInt := by rw [← e_6760, q_u_k (by decide)]
                    have t_6764 : (I_6759 o 4).toInt = (I_6729 o 4).toInt := by rw [← e_6760, q_u_k (by decide)]
                    have t_6765 : (I_6759 o 6).toInt = (I_6729 o 6).toInt := by rw [← e_6760, q_u_k (by decide)]
                    have t_6766 : (I_6759 o 7).toInt = (I_6729 o 7).toInt := by rw [← e_6760, q_u_k (by decide)]
                    have t_6767 : (I_6759 o 8).toInt = (I_6729 o 8).toInt := by rw [← e_6760, q_u_k (by decide)]
                    have t_6768 : (I_6759 o 9).toInt = (I_6729 o 9).toInt := by rw [← e_6760, q_u_k (by decide)]
                    have t_6769 : (I_6759 o 44).toInt = (I_6729 o 44).toInt := by rw [← e_6760, q_u_k (by decide)]
                    have t_6770 : (I_6759 o 45).toInt = (I_6729 o 45).toInt := by rw [← e_6760, q_u_k (by decide)]
                    have t_6771 : (I_6759 o 47).toInt = (I_6729 o 47).toInt := by rw [← e_6760, q_u_k (by decide)]
                    have t_6772 : (I_6759 o 48).toInt = (I_6729 o 48).toInt := by rw [← e_6760, q_u_k (by decide)]
                    have t_6773 : (I_6759 o 46).toInt = ((I_6729 o 46) + 1).toInt := by rw [← e_6760, q_u_at]
                    have k_6774 : EX 0 0 0 f0 1 I_6759 o := k_6745.fr (by rw [← e_6760]; exact q_u_ne (by omega)) (by rw [← e_6760]; exact q_u_ne (by omega)) (by rw [← e_6760]; exact q_u_ne (by omega)) (by rw [← e_6760]; exact q_u_ne (by omega)) (by rw [← e_6760]; exact q_u_ne (by omega)) (by rw [← e_6760, q_u_k (by decide)]) (by rw [← e_6760, q_u_k (by decide)]) (by rw [← e_6760, q_u_k (by decide)]) (by rw [← e_6760, q_u_k (by decide)]) (by rw [← e_6760, q_u_k (by decide)]) (by rw [← e_6760, q_u_k (by decide)])
                    have k_6775 : MTd I_6759 o := k_6746.fr (by rw [← e_6760]; exact q_u_ne (by omega)) (by rw [← e_6760]; exact q_u_ne (by omega)) (by rw [← e_6760]; exact q_u_ne (by omega))
                    have k_6776 : MPo I_6759 o := k_6747.fr (by rw [← e_6760, q_u_k (by decide)]) (by rw [← e_6760, q_u_k (by decide)])
                    have k_6777 : MTk I_6759 o := k_6748.fr (by rw [← e_6760, q_u_k (by decide)]) (by rw [← e_6760, q_u_k (by decide)]) (by rw [← e_6760, q_u_k (by decide)])
                    refine y_Model_is hok hw ra hR_6761 (fun r_6778 u_6779 u_6780 u_6781 => ⟨r_6778, I_6759, L_6730, rfl, rfl, ?_⟩)
                    have b_6782 : 0 ≤ r_6778.toInt ∧ r_6778.toInt ≤ 1 := u_6779.rg
                    refine ⟨fun c_6783 => ?_, fun c_6783 => ?_⟩
                    · have d_6784 := iEq c_6783
                      have cd := k_6774.cod
                      have tk := k_6777.2 (by omega)
                      refine ⟨fun c_6785 => ?_, fun c_6785 => ?_⟩
                      · have d_6786 := iNe c_6785
                        have i_6787 := u_5205 (by omega)
                        have i_6788 := u_5206 (by omega)
                        exfalso; omega
                      · have d_6789 := iEq c_6785
                        unfold fModel_unit_228
                        have l_6790 : (78 : Int32).toInt = 78 := rfl
                        refine ⟨fun c_6791 => ?_, fun c_6791 => ?_⟩
                        · have d_6792 := iNe c_6791
                          have i_6793 := u_5205 (by omega)
                          have i_6794 := u_5206 (by omega)
                          exfalso; omega
                        · have d_6795 := iEq c_6791
                          refine y_Model_step hok hw ra hz55 (by first | omega | (intro h; omega) | exact Or.inl rfl | exact Or.inr rfl) (by first | omega | (intro h; omega) | exact Or.inl rfl | exact Or.inr rfl) hR_6761 (fun I_6799 L_6800 hR_6801 fr_6802 kp_6803 u_6797 u_6798 => ⟨I_6799, L_6800, rfl, rfl, ?_⟩)
                          have hf_6804 : Fm (fun c => c = o ∨ (o + 30 ≤ c ∧ c < o + 34)) I0 I_6799 := hf_6762.call fr_6802 (fun c hc => by first | exact hc | (dsimp only at hc ⊢; omega) | omega)
                          have t_6805 : (I_6799 o 3).toInt = (I_6759 o 3).toInt := by rw [kp_6803 3 rfl]
                          have t_6806 : (I_6799 o 4).toInt = (I_6759 o 4).toInt := by rw [kp_6803 4 rfl]
                          have t_6807 : (I_6799 o 6).toInt = (I_6759 o 6).toInt := by rw [kp_6803 6 rfl]
                          have t_6808 : (I_6799 o 7).toInt = (I_6759 o 7).toInt := by rw [kp_6803 7 rfl]
                          have t_6809 : (I_6799 o 8).toInt = (I_6759 o 8).toInt := by rw [kp_6803 8 rfl]
                          have t_6810 : (I_6799 o 9).toInt = (I_6759 o 9).toInt := by rw [kp_6803 9 rfl]
                          have t_6811 : (I_6799 o 44).toInt = (I_6759 o 44).toInt := by rw [kp_6803 44 rfl]
                          have g_6812 : (0 : Int) ≤ (I_6799 o 45).toInt ∧ (I_6799 o 45).toInt ≤ 700 := hR_6801.at0 ra 45 (by decide)
                          have t_6813 : (I_6799 o 47).toInt = (I_6759 o 47).toInt := by rw [kp_6803 47 rfl]
                          have t_6814 : (I_6799 o 48).toInt = (I_6759 o 48).toInt := by rw [kp_6803 48 rfl]
                          have t_6815 : (I_6799 o 46).toInt = (I_6759 o 46).toInt := by rw [kp_6803 46 rfl]
                          have k_6816 : MPo I_6799 o := k_6776.fr (kp_6803 8 rfl) (kp_6803 9 rfl)
                          have k_6817 : MTk I_6799 o := k_6777.fr (kp_6803 6 rfl) (kp_6803 7 rfl) (kp_6803 8 rfl)
                          have tk := k_6817.2 (by omega)
                          have k_6818 : EX 0 0 1 f0 0 I_6799 o := by exact EX.step1 k_6774 (by first | exact u_5205 (by omega) | (unfold isT; decide)) (by omega) (fr_6802 _ (by first | omega | (dsimp only; omega))) (fr_6802 _ (by first | omega | (dsimp only; omega))) u_6797 (fr_6802 _ (by first | omega | (dsimp only; omega))) (fr_6802 _ (by first | omega | (dsimp only; omega))) (kp_6803 3 rfl) (kp_6803 6 rfl) (kp_6803 44 rfl) u_6798 (kp_6803 47 rfl) (kp_6803 48 rfl)
                          have k_6819 : MTd I_6799 o := by exact MTd.step k_6775 (fr_6802 _ (by first | omega | (dsimp only; omega))) (fr_6802 _ (by first | omega | (dsimp only; omega))) u_6797 (by omega)
                          refine y_Model_next hok hw ra hz16 hz17 hz18 hz19 (by first | omega | (intro h; omega) | exact Or.inl rfl | exact Or.inr rfl) hR_6801 (fun I_6829 L_6830 hR_6831 fr_6832 kp_6833 u_6821 u_6822 u_6823 u_6824 u_6825 u_6826 u_6827 u_6828 => ⟨I_6829, L_6830, rfl, rfl, ?_⟩)
                          have hf_6834 : Fm (fun c => c = o ∨ (o + 30 ≤ c ∧ c < o + 34)) I0 I_6829 := hf_6804.call fr_6832 (fun c hc => by first | exact hc | (dsimp only at hc ⊢; omega) | omega)
                          have t_6835 : (I_6829 o 3).toInt = (I_6799 o 3).toInt := by rw [kp_6833 3 rfl]
                          have t_6836 : (I_6829 o 4).toInt = (I_6799 o 4).toInt := by rw [kp_6833 4 rfl]
                          have g_6837 : (0 : Int) ≤ (I_6829 o 6).toInt ∧ (I_6829 o 6).toInt ≤ 1600 := hR_6831.at0 ra 6 (by decide)
                          have g_6838 : (0 : Int) ≤ (I_6829 o 7).toInt ∧ (I_6829 o 7).toInt ≤ 1601 := hR_6831.at0 ra 7 (by decide)
                          have g_6839 : (0 : Int) ≤ (I_6829 o 8).toInt ∧ (I_6829 o 8).toInt ≤ 6 := hR_6831.at0 ra 8 (by decide)
                          have t_6840 : (I_6829 o 44).toInt = (I_6799 o 44).toInt := by rw [kp_6833 44 rfl]
                          have t_6841 : (I_6829 o 45).toInt = (I_6799 o 45).toInt := by rw [kp_6833 45 rfl]
                          have t_6842 : (I_6829 o 47).toInt = (I_6799 o 47).toInt := by rw [kp_6833 47 rfl]
                          have t_6843 : (I_6829 o 48).toInt = (I_6799 o 48).toInt := by rw [kp_6833 48 rfl]
                          have t_6844 : (I_6829 o 46).toInt = (I_6799 o 46).toInt := by rw [kp_6833 46 rfl]
                          have k_6845 : MTd I_6829 o := k_6819.fr (fr_6832 _ (by first | omega | (dsimp only; omega))) (fr_6832 _ (by first | omega | (dsimp only; omega))) (fr_6832 _ (by first | omega | (dsimp only; omega)))
                          have ms := u_6824 (by omega)
                          have k_6846 : EX 0 0 0 f0 0 I_6829 o := by exact EX.nx k_6818 (fr_6832 _ (by first | omega | (dsimp only; omega))) (fr_6832 _ (by first | omega | (dsimp only; omega))) (fr_6832 _ (by first | omega | (dsimp only; omega))) (fr_6832 _ (by first | omega | (dsimp only; omega))) (fr_6832 _ (by first | omega | (dsimp only; omega))) (kp_6833 3 rfl) (kp_6833 44 rfl) (kp_6833 45 rfl) (kp_6833 47 rfl) (kp_6833 48 rfl) (by omega) (by omega)
                          exact (hp _ _ _ hR_6831 hf_6834 (Or.inl rfl) (by first | omega | (intro h; omega) | exact Or.inl rfl | exact Or.inr rfl) (by first | omega | (intro h; omega) | exact Or.inl rfl | exact Or.inr rfl) (by first | omega | (intro h; omega) | exact Or.inl rfl | exact Or.inr rfl) (by first | omega | (intro h; omega) | exact Or.inl rfl | exact Or.inr rfl) (by first | omega | (intro h; omega) | exact Or.inl rfl | exact Or.inr rfl) (by first | (intro h; exfalso; omega) | exact fun _ => (False.elim (by omega)) | exact fun _ => k_6846) k_6845 u_6827 u_6828)
                    · have d_6847 := iNe c_6783
                      have i_6848 := u_6780 (by omega)
                      have i_6849 := u_6781 (by omega)
                      have g_6850 : (0 : Int) ≤ (I_6759 o 47).toInt ∧ (I_6759 o 47).toInt ≤ 7 := hR_6761.at0 ra 47 (by decide)
                      refine ⟨fun c_6851 => ?_, fun c_6851 => ?_⟩
                      · have d_6852 := iNe c_6851
                        refine y_Model_isGood hok hw ra hR_6761 (fun r_6853 u_6854 u_6855 u_6856 => ⟨r_6853, I_6759, L_6730, rfl, rfl, ?_⟩)
                        have b_6857 : 0 ≤ r_6853.toInt ∧ r_6853.toInt ≤ 1 := u_6854.rg
                        refine ⟨fun c_6858 => ?_, fun c_6858 => ?_⟩
                        · have d_6859 := iNe c_6858
                          have i_6860 := u_6855 (by omega)
                          refine y_Model_pile hok hw ra hz58 (by first | omega | (intro h; omega) | exact Or.inl rfl | exact Or.inr rfl) (by first | omega | (intro h; omega) | exact Or.inl rfl | exact Or.inr rfl) hR_6761 (fun I_6865 L_6866 hR_6867 fr_6868 kp_6869 u_6862 u_6863 u_6864 => ⟨I_6865, L_6866, rfl, rfl, ?_⟩)
                          have hf_6870 : Fm (fun c => c = o ∨ (o + 30 ≤ c ∧ c < o + 34)) I0 I_6865 := hf_6762.call fr_6868 (fun c hc => by first | exact hc | (dsimp only at hc ⊢; omega) | omega)
                          have t_6871 : (I_6865 o 3).toInt = (I_6759 o 3).toInt := by rw [kp_6869 3 rfl]
                          have t_6872 : (I_6865 o 4).toInt = (I_6759 o 4).toInt := by rw [kp_6869 4 rfl]
                          have t_6873 : (I_6865 o 6).toInt = (I_6759 o 6).toInt := by rw [kp_6869 6 rfl]
                          have t_6874 : (I_6865 o 7).toInt = (I_6759 o 7).toInt := by rw [kp_6869 7 rfl]
                          have t_6875 : (I_6865 o 8).toInt = (I_6759 o 8).toInt := by rw [kp_6869 8 rfl]
                          have t_6876 : (I_6865 o 9).toInt = (I_6759 o 9).toInt := by rw [kp_6869 9 rfl]
                          have t_6877 : (I_6865 o 44).toInt = (I_6759 o 44).toInt := by rw [kp_6869 44 rfl]
                          have t_6878 : (I_6865 o 45).toInt = (I_6759 o 45).toInt := by rw [kp_6869 45 rfl]
                          have t_6879 : (I_6865 o 47).toInt = (I_6759 o 47).toInt := by rw [kp_6869 47 rfl]
                          have g_6880 : (0 : Int) ≤ (I_6865 o 48).toInt ∧ (I_6865 o 48).toInt ≤ 80 := hR_6867.at0 ra 48 (by decide)
                          have t_6881 : (I_6865 o 46).toInt = (I_6759 o 46).toInt := by rw [kp_6869 46 rfl]
                          have k_6882 : MTd I_6865 o := k_6775.fr (fr_6868 _ (by first | omega | (dsimp only; omega))) (fr_6868 _ (by first | omega | (dsimp only; omega))) (fr_6868 _ (by first | omega | (dsimp only; omega)))
                          have k_6883 : MPo I_6865 o := k_6776.fr (kp_6869 8 rfl) (kp_6869 9 rfl)
                          have k_6884 : MTk I_6865 o := k_6777.fr (kp_6869 6 rfl) (kp_6869 7 rfl) (kp_6869 8 rfl)
                          have k_6885 : EX 0 1 1 f0 1 I_6865 o := by have z := EX.push k_6774 (v := 7) (s := 0) (dB := 1) (dO := 0) (wt' := 1) (by decide) (by decide) (by decide) (by omega) ⟨by decide, by decide⟩ ⟨fun h => absurd h (by decide), fun h => absurd h (by decide)⟩ (Or.inl rfl) (fr_6868 _ (by first | omega | (dsimp only; omega))) (fr_6868 _ (by first | omega | (dsimp only; omega))) (fr_6868 _ (by first | omega | (dsimp only; omega))) u_6862 u_6863 (kp_6869 3 rfl) (kp_6869 6 rfl) (kp_6869 44 rfl) (kp_6869 45 rfl) (kp_6869 47 rfl) u_6864; exact EX.chg (b' := 1) z rfl rfl rfl rfl rfl rfl rfl rfl rfl rfl (by omega) z.pl
                          have g_6886 : (0 : Int) ≤ (I_6865 o 47).toInt ∧ (I_6865 o 47).toInt ≤ 7 := hR_6867.at0 ra 47 (by decide)
                          have a_6887 : ((I_6865 o 47) + 1).toInt = (I_6865 o 47).toInt + (1 : Int32).toInt := tAdd (by omega) (by omega)
                          refine fun I_6888 e_6889 => ?_
                          have hR_6890 : RI R I_6888 := hR_6867.up0 (k := 47) ra (by decide) (Or.inr hz57) e_6889 (show (0 : Int) ≤ ((I_6865 o 47) + 1).toInt by omega) (show ((I_6865 o 47) + 1).toInt ≤ (7 : Int) by omega)
                          have hf_6891 : Fm (fun c => c = o ∨ (o + 30 ≤ c ∧ c < o + 34)) I0 I_6888 := hf_6870.set (by first | rfl | omega | (dsimp only; omega)) e_6889
                          have t_6892 : (I_6888 o 3).toInt = (I_6865 o 3).toInt := by rw [← e_6889, q_u_k (by decide)]
                          have t_6893 : (I_6888 o 4).toInt = (I_6865 o 4).toInt := by rw [← e_6889, q_u_k (by decide)]
                          have t_6894 : (I_6888 o 6).toInt = (I_6865 o 6).toInt := by rw [← e_6889, q_u_k (by decide)]
                          have t_6895 : (I_6888 o 7).toInt = (I_6865 o 7).toInt := by rw [← e_6889, q_u_k (by decide)]
                          have t_6896 : (I_6888 o 8).toInt = (I_6865 o 8).toInt := by rw [← e_6889, q_u_k (by decide)]
                          have t_6897 : (I_6888 o 9).toInt = (I_6865 o 9).toInt := by rw [← e_6889, q_u_k (by decide)]
                          have t_6898 : (I_6888 o 44).toInt = (I_6865 o 44).toInt := by rw [← e_6889, q_u_k (by decide)]
                          have t_6899 : (I_6888 o 45).toInt = (I_6865 o 45).toInt := by rw [← e_6889, q_u_k (by decide)]
                          have t_6900 : (I_6888 o 47).toInt = ((I_6865 o 47) + 1).toInt := by rw [← e_6889, q_u_at]
                          have t_6901 : (I_6888 o 48).toInt = (I_6865 o 48).toInt := by rw [← e_6889, q_u_k (by decide)]
                          have t_6902 : (I_6888 o 46).toInt = (I_6865 o 46).toInt := by rw [← e_6889, q_u_k (by decide)]
                          have k_6903 : MTd I_6888 o := k_6882.fr (by rw [← e_6889]; exact q_u_ne (by omega)) (by rw [← e_6889]; exact q_u_ne (by omega)) (by rw [← e_6889]; exact q_u_ne (by omega))
                          have k_6904 : MPo I_6888 o := k_6883.fr (by rw [← e_6889, q_u_k (by decide)]) (by rw [← e_6889, q_u_k (by decide)])
                          have k_6905 : MTk I_6888 o := k_6884.fr (by rw [← e_6889, q_u_k (by decide)]) (by rw [← e_6889, q_u_k (by decide)]) (by rw [← e_6889, q_u_k (by decide)])
                          have tk := k_6905.2 (by omega)
                          have k_6907 : EX 0 0 1 f0 1 I_6888 o := by exact EX.put47 k_6885 e_6889 (by omega)
                          refine y_Model_next hok hw ra hz16 hz17 hz18 hz19 (by first | omega | (intro h; omega) | exact Or.inl rfl | exact Or.inr rfl) hR_6890 (fun I_6917 L_6918 hR_6919 fr_6920 kp_6921 u_6909 u_6910 u_6911 u_6912 u_6913 u_6914 u_6915 u_6916 => ⟨I_6917, L_6918, rfl, rfl, ?_⟩)
                          have hf_6922 : Fm (fun c => c = o ∨ (o + 30 ≤ c ∧ c < o + 34)) I0 I_6917 := hf_6891.call fr_6920 (fun c hc => by first | exact hc | (dsimp only at hc ⊢; omega) | omega)
                          have t_6923 : (I_6917 o 3).toInt = (I_6888 o 3).toInt := by rw [kp_6921 3 rfl]
                          have t_6924 : (I_6917 o 4).toInt = (I_6888 o 4).toInt := by rw [kp_6921 4 rfl]
                          have g_6925 : (0 : Int) ≤ (I_6917 o 6).toInt ∧ (I_6917 o 6).toInt ≤ 1600 := hR_6919.at0 ra 6 (by decide)
                          have g_6926 : (0 : Int) ≤ (I_6917 o 7).toInt ∧ (I_6917 o 7).toInt ≤ 1601 := hR_6919.at0 ra 7 (by decide)
                          have g_6927 : (0 : Int) ≤ (I_6917 o 8).toInt ∧ (I_6917 o 8).toInt ≤ 6 := hR_6919.at0 ra 8 (by decide)
                          have t_6928 : (I_6917 o 44).toInt = (I_6888 o 44).toInt := by rw [kp_6921 44 rfl]
                          have t_6929 : (I_6917 o 45).toInt = (I_6888 o 45).toInt := by rw [kp_6921 45 rfl]
                          have t_6930 : (I_6917 o 47).toInt = (I_6888 o 47).toInt := by rw [kp_6921 47 rfl]
                          have t_6931 : (I_6917 o 48).toInt = (I_6888 o 48).toInt := by rw [kp_6921 48 rfl]
                          have t_6932 : (I_6917 o 46).toInt = (I_6888 o 46).toInt := by rw [kp_6921 46 rfl]
                          have k_6933 : MTd I_6917 o := k_6903.fr (fr_6920 _ (by first | omega | (dsimp only; omega))) (fr_6920 _ (by first | omega | (dsimp only; omega))) (fr_6920 _ (by first | omega | (dsimp only; omega)))
                          have ms := u_6912 (by omega)
                          have k_6934 : EX 0 0 0 f0 1 I_6917 o := by exact EX.nx k_6907 (fr_6920 _ (by first | omega | (dsimp only; omega))) (fr_6920 _ (by first | omega | (dsimp only; omega))) (fr_6920 _ (by first | omega | (dsimp only; omega))) (fr_6920 _ (by first | omega | (dsimp only; omega))) (fr_6920 _ (by first | omega | (dsimp only; omega))) (kp_6921 3 rfl) (kp_6921 44 rfl) (kp_6921 45 rfl) (kp_6921 47 rfl) (kp_6921 48 rfl) (by omega) (by omega)
                          exact (hp _ _ _ hR_6919 hf_6922 (Or.inr rfl) (by first | omega | (intro h; omega) | exact Or.inl rfl | exact Or.inr rfl) (by first | omega | (intro h; omega) | exact Or.inl rfl | exact Or.inr rfl) (by first | omega | (intro h; omega) | exact Or.inl rfl | exact Or.inr rfl) (by first | omega | (intro h; omega) | exact Or.inl rfl | exact Or.inr rfl) (by first | omega | (intro h; omega) | exact Or.inl rfl | exact Or.inr rfl) (by first | (intro h; exfalso; omega) | exact fun _ => k_6934 | exact fun _ => (False.elim (by omega))) k_6933 u_6915 u_6916)
                        · have d_6935 := iEq c_6858
                          have i_6936 := u_6856 (by omega)
                          exact (hp _ _ _ hR_6761 hf_6762 (Or.inr rfl) (by first | omega | (intro h; omega) | exact Or.inl rfl | exact Or.inr rfl) (by first | omega | (intro h; omega) | exact Or.inl rfl | exact Or.inr rfl) (by first | omega | (intro h; omega) | exact Or.inl rfl | exact Or.inr rfl) (by first | omega | (intro h; omega) | exact Or.inl rfl | exact Or.inr rfl) (by first | omega | (intro h; omega) | exact Or.inl rfl | exact Or.inr rfl) (by first | (intro h; exfalso; omega) | exact fun _ => k_6774 | exact fun _ => (False.elim (by omega))) k_6775 k_6776 k_6777)
                      · have d_6937 := iEq c_6851
                        refine y_Model_wrong hok hw ra hz14 hz15 hR_6761 (fun I_6941 L_6942 hR_6943 fr_6944 kp_6945 u_6939 u_6940 => ⟨I_6941, L_6942, rfl, rfl, ?_⟩)
                        have hf_6946 : Fm (fun c => c = o ∨ (o + 30 ≤ c ∧ c < o + 34)) I0 I_6941 := hf_6762.call fr_6944 (fun c hc => by first | exact hc | (dsimp only at hc ⊢; omega) | omega)
                        have t_6947 : (I_6941 o 3).toInt = (I_6759 o 3).toInt := by rw [kp_6945 3 rfl]
                        have g_6948 : (0 : Int) ≤ (I_6941 o 4).toInt ∧ (I_6941 o 4).toInt ≤ 5 := hR_6943.at0 ra 4 (by decide)
                        have t_6949 : (I_6941 o 6).toInt = (I_6759 o 6).toInt := by rw [kp_6945 6 rfl]
                        have t_6950 : (I_6941 o 7).toInt = (I_6759 o 7).toInt := by rw [kp_6945 7 rfl]
                        have t_6951 : (I_6941 o 8).toInt = (I_6759 o 8).toInt := by rw [kp_6945 8 rfl]
                        have t_6952 : (I_6941 o 9).toInt = (I_6759 o 9).toInt := by rw [kp_6945 9 rfl]
                        have t_6953 : (I_6941 o 44).toInt = (I_6759 o 44).toInt := by rw [kp_6945 44 rfl]
                        have t_6954 : (I_6941 o 45).toInt = (I_6759 o 45).toInt := by rw [kp_6945 45 rfl]
                        have t_6955 : (I_6941 o 47).toInt = (I_6759 o 47).toInt := by rw [kp_6945 47 rfl]
                        have t_6956 : (I_6941 o 48).toInt = (I_6759 o 48).toInt := by rw [kp_6945 48 rfl]
                        have t_6957 : (I_6941 o 46).toInt = (I_6759 o 46).toInt := by rw [kp_6945 46 rfl]
                        have k_6958 : EX 0 0 0 f0 1 I_6941 o := k_6774.fr (fr_6944 _ (by first | omega | (dsimp only; omega))) (fr_6944 _ (by first | omega | (dsimp only; omega))) (fr_6944 _ (by first | omega | (dsimp only; omega))) (fr_6944 _ (by first | omega | (dsimp only; omega))) (fr_6944 _ (by first | omega | (dsimp only; omega))) (kp_6945 3 rfl) (kp_6945 6 rfl) (kp_6945 44 rfl) (kp_6945 45 rfl) (kp_6945 47 rfl) (kp_6945 48 rfl)
                        have k_6959 : MTd I_6941 o := k_6775.fr (fr_6944 _ (by first | omega | (dsimp only; omega))) (fr_6944 _ (by first | omega | (dsimp only; omega))) (fr_6944 _ (by first | omega | (dsimp only; omega)))
                        have k_6960 : MPo I_6941 o := k_6776.fr (kp_6945 8 rfl) (kp_6945 9 rfl)
                        have k_6961 : MTk I_6941 o := k_6777.fr (kp_6945 6 rfl) (kp_6945 7 rfl) (kp_6945 8 rfl)
                        refine y_Model_isGood hok hw ra hR_6943 (fun r_6962 u_6963 u_6964 u_6965 => ⟨r_6962, I_6941, L_6942, rfl, rfl, ?_⟩)
                        have b_6966 : 0 ≤ r_6962.toInt ∧ r_6962.toInt ≤ 1 := u_6963.rg
                        refine ⟨fun c_6967 => ?_, fun c_6967 => ?_⟩
                        · have d_6968 := iNe c_6967
                          have i_6969 := u_6964 (by omega)
                          refine y_Model_pile hok hw ra hz58 (by first | omega | (intro h; omega) | exact Or.inl rfl | exact Or.inr rfl) (by first | omega | (intro h; omega) | exact Or.inl rfl | exact Or.inr rfl) hR_6943 (fun I_6974 L_6975 hR_6976 fr_6977 kp_6978 u_6971 u_6972 u_6973 => ⟨I_6974, L_6975, rfl, rfl, ?_⟩)
                          have hf_6979 : Fm (fun c => c = o ∨ (o + 30 ≤ c ∧ c < o + 34)) I0 I_6974 := hf_6946.call fr_6977 (fun c hc => by first | exact hc | (dsimp only at hc ⊢; omega) | omega)
                          have t_6980 : (I_6974 o 3).toInt = (I_6941 o 3).toInt := by rw [kp_6978 3 rfl]
                          have t_6981 : (I_6974 o 4).toInt = (I_6941 o 4).toInt := by rw [kp_6978 4 rfl]
                          have t_6982 : (I_6974 o 6).toInt = (I_6941 o 6).toInt := by rw [kp_6978 6 rfl]
                          have t_6983 : (I_6974 o 7).toInt = (I_6941 o 7).toInt := by rw [kp_6978 7 rfl]
                          have t_6984 : (I_6974 o 8).toInt = (I_6941 o 8).toInt := by rw [kp_6978 8 rfl]
                          have t_6985 : (I_6974 o 9).toInt = (I_6941 o 9).toInt := by rw [kp_6978 9 rfl]
                          have t_6986 : (I_6974 o 44).toInt = (I_6941 o 44).toInt := by rw [kp_6978 44 rfl]
                          have t_6987 : (I_6974 o 45).toInt = (I_6941 o 45).toInt := by rw [kp_6978 45 rfl]
                          have t_6988 : (I_6974 o 47).toInt = (I_6941 o 47).toInt := by rw [kp_6978 47 rfl]
                          have g_6989 : (0 : Int) ≤ (I_6974 o 48).toInt ∧ (I_6974 o 48).toInt ≤ 80 := hR_6976.at0 ra 48 (by decide)
                          have t_6990 : (I_6974 o 46).toInt = (I_6941 o 46).toInt := by rw [kp_6978 46 rfl]
                          have k_6991 : MTd I_6974 o := k_6959.fr (fr_6977 _ (by first | omega | (dsimp only; omega))) (fr_6977 _ (by first | omega | (dsimp only; omega))) (fr_6977 _ (by first | omega | (dsimp only; omega)))
                          have k_6992 : MPo I_6974 o := k_6960.fr (kp_6978 8 rfl) (kp_6978 9 rfl)
                          have k_6993 : MTk I_6974 o := k_6961.fr (kp_6978 6 rfl) (kp_6978 7 rfl) (kp_6978 8 rfl)
                          have k_6994 : EX 0 1 1 f0 1 I_6974 o := by have z := EX.push k_6958 (v := 7) (s := 0) (dB := 1) (dO := 0) (wt' := 1) (by decide) (by decide) (by decide) (by omega) ⟨by decide, by decide⟩ ⟨fun h => absurd h (by decide), fun h => absurd h (by decide)⟩ (Or.inl rfl) (fr_6977 _ (by first | omega | (dsimp only; omega))) (fr_6977 _ (by first | omega | (dsimp only; omega))) (fr_6977 _ (by first | omega | (dsimp only; omega))) u_6971 u_6972 (kp_6978 3 rfl) (kp_6978 6 rfl) (kp_6978 44 rfl) (kp_6978 45 rfl) (kp_6978 47 rfl) u_6973; exact EX.chg (b' := 1) z rfl rfl rfl rfl rfl rfl rfl rfl rfl rfl (by omega) z.pl
                          have g_6995 : (0 : Int) ≤ (I_6974 o 47).toInt ∧ (I_6974 o 47).toInt ≤ 7 := hR_6976.at0 ra 47 (by decide)
                          have a_6996 : ((I_6974 o 47) + 1).toInt = (I_6974 o 47).toInt + (1 : Int32).toInt := tAdd (by omega) (by omega)
                          refine fun I_6997 e_6998 => ?_
                          have hR_6999 : RI R I_6997 := hR_6976.up0 (k := 47) ra (by decide) (Or.inr hz57) e_6998 (show (0 : Int) ≤ ((I_6974 o 47) + 1).toInt by omega) (show ((I_6974 o 47) + 1).toInt ≤ (7 : Int) by omega)
                          have hf_7000 : Fm (fun c => c = o ∨ (o + 30 ≤ c ∧ c < o + 34)) I0 I_6997 := hf_6979.set (by first | rfl | omega | (dsimp only; omega)) e_6998
                          have t_7001 : (I_6997 o 3).toInt = (I_6974 o 3).toInt := by rw [← e_6998, q_u_k (by decide)]
                          have t_7002 : (I_6997 o 4).toInt = (I_6974 o 4).toInt := by rw [← e_6998, q_u_k (by decide)]
                          have t_7003 : (I_6997 o 6).toInt = (I_6974 o 6).toInt := by rw [← e_6998, q_u_k (by decide)]
                          have t_7004 : (I_6997 o 7).toInt = (I_6974 o 7).toInt := by rw [← e_6998, q_u_k (by decide)]
                          have t_7005 : (I_6997 o 8).toInt = (I_6974 o 8).toInt := by rw [← e_6998, q_u_k (by decide)]
                          have t_7006 : (I_6997 o 9).toInt = (I_6974 o 9).toInt := by rw [← e_6998, q_u_k (by decide)]
                          have t_7007 : (I_6997 o 44).toInt = (I_6974 o 44).toInt := by rw [← e_6998, q_u_k (by decide)]
                          have t_7008 : (I_6997 o 45).toInt = (I_6974 o 45).toInt := by rw [← e_6998, q_u_k (by decide)]
                          have t_7009 : (I_6997 o 47).toInt = ((I_6974 o 47) + 1).toInt := by rw [← e_6998, q_u_at]
                          have t_7010 : (I_6997 o 48).toInt = (I_6974 o 48).toInt := by rw [← e_6998, q_u_k (by decide)]
                          have t_7011 : (I_6997 o 46).toInt = (I_6974 o 46).toInt := by rw [← e_6998, q_u_k (by decide)]
                          have k_7012 : MTd I_6997 o := k_6991.fr (by rw [← e_6998]; exact q_u_ne (by omega)) (by rw [← e_6998]; exact q_u_ne (by omega)) (by rw [← e_6998]; exact q_u_ne (by omega))
                          have k_7013 : MPo I_6997 o := k_6992.fr (by rw [← e_6998, q_u_k (by decide)]) (by rw [← e_6998, q_u_k (by decide)])
                          have k_7014 : MTk I_6997 o := k_6993.fr (by rw [← e_6998, q_u_k (by decide)]) (by rw [← e_6998, q_u_k (by decide)]) (by rw [← e_6998, q_u_k (by decide)])
                          have tk := k_7014.2 (by omega)
                          have k_7016 : EX 0 0 1 f0 1 I_6997 o := by exact EX.put47 k_6994 e_6998 (by omega)
                          refine y_Model_next hok hw ra hz16 hz17 hz18 hz19 (by first | omega | (intro h; omega) | exact Or.inl rfl | exact Or.inr rfl) hR_6999 (fun I_7026 L_7027 hR_7028 fr_7029 kp_7030 u_7018 u_7019 u_7020 u_7021 u_7022 u_7023 u_7024 u_7025 => ⟨I_7026, L_7027, rfl, rfl, ?_⟩)
                          have hf_7031 : Fm (fun c => c = o ∨ (o + 30 ≤ c ∧ c < o + 34)) I0 I_7026 := hf_7000.call fr_7029 (fun c hc => by first | exact hc | (dsimp only at hc ⊢; omega) | omega)
                          have t_7032 : (I_7026 o 3).toInt = (I_6997 o 3).toInt := by rw [kp_7030 3 rfl]
                          have t_7033 : (I_7026 o 4).toInt = (I_6997 o 4).toInt := by rw [kp_7030 4 rfl]
                          have g_7034 : (0 : Int) ≤ (I_7026 o 6).toInt ∧ (I_7026 o 6).toInt ≤ 1600 := hR_7028.at0 ra 6 (by decide)
                          have g_7035 : (0 : Int) ≤ (I_7026 o 7).toInt ∧ (I_7026 o 7).toInt ≤ 1601 := hR_7028.at0 ra 7 (by decide)
                          have g_7036 : (0 : Int) ≤ (I_7026 o 8).toInt ∧ (I_7026 o 8).toInt ≤ 6 := hR_7028.at0 ra 8 (by decide)
                          have t_7037 : (I_7026 o 44).toInt = (I_6997 o 44).toInt := by rw [kp_7030 44 rfl]
                          have t_7038 : (I_7026 o 45).toInt = (I_6997 o 45).toInt := by rw [kp_7030 45 rfl]
                          have t_7039 : (I_7026 o 47).toInt = (I_6997 o 47).toInt := by rw [kp_7030 47 rfl]
                          have t_7040 : (I_7026 o 48).toInt = (I_6997 o 48).toInt := by rw [kp_7030 48 rfl]
                          have t_7041 : (I_7026 o 46).toInt = (I_6997 o 46).toInt := by rw [kp_7030 46 rfl]
                          have k_7042 : MTd I_7026 o := k_7012.fr (fr_7029 _ (by first | omega | (dsimp only; omega))) (fr_7029 _ (by first | omega | (dsimp only; omega))) (fr_7029 _ (by first | omega | (dsimp only; omega)))
                          have ms := u_7021 (by omega)
                          have k_7043 : EX 0 0 0 f0 1 I_7026 o := by exact EX.nx k_7016 (fr_7029 _ (by first | omega | (dsimp only; omega))) (fr_7029 _ (by first | omega | (dsimp only; omega))) (fr_7029 _ (by first | omega | (dsimp only; omega))) (fr_7029 _ (by first | omega | (dsimp only; omega))) (fr_7029 _ (by first | omega | (dsimp only; omega))) (kp_7030 3 rfl) (kp_7030 44 rfl) (kp_7030 45 rfl) (kp_7030 47 rfl) (kp_7030 48 rfl) (by omega) (by omega)
                          exact (hp _ _ _ hR_7028 hf_7031 (Or.inr rfl) (by first | omega | (intro h; omega) | exact Or.inl rfl | exact Or.inr rfl) (by first | omega | (intro h; omega) | exact Or.inl rfl | exact Or.inr rfl) (by first | omega | (intro h; omega) | exact Or.inl rfl | exact Or.inr rfl) (by first | omega | (intro h; omega) | exact Or.inl rfl | exact Or.inr rfl) (by first | omega | (intro h; omega) | exact Or.inl rfl | exact Or.inr rfl) (by first | (intro h; exfalso; omega) | exact fun _ => k_7043 | exact fun _ => (False.elim (by omega))) k_7042 u_7024 u_7025)
                        · have d_7044 := iEq c_6967
                          have i_7045 := u_6965 (by omega)
                          exact (hp _ _ _ hR_6943 hf_6946 (Or.inr rfl) (by first | omega | (intro h; omega) | exact Or.inl rfl | exact Or.inr rfl) (by first | omega | (intro h; omega) | exact Or.inl rfl | exact Or.inr rfl) (by first | omega | (intro h; omega) | exact Or.inl rfl | exact Or.inr rfl) (by first | omega | (intro h; omega) | exact Or.inl rfl | exact Or.inr rfl) (by first | omega | (intro h; omega) | exact Or.inl rfl | exact Or.inr rfl) (by first | (intro h; exfalso; omega) | exact fun _ => k_6958 | exact fun _ => (False.elim (by omega))) k_6959 k_6960 k_6961)
                  · have d_7046 := iEq c_6754
                    have i_7047 := u_6752 (by omega)
                    exact (hp _ _ _ hR_6731 hf_6734 (Or.inr rfl) (by first | omega | (intro h; omega) | exact Or.inl rfl | exact Or.inr rfl) (by first | omega | (intro h; omega) | exact Or.inl rfl | exact Or.inr rfl) (by first | omega | (intro h; omega) | exact Or.inl rfl | exact Or.inr rfl) (by first | omega | (intro h; omega) | exact Or.inl rfl | exact Or.inr rfl) (by first | omega | (intro h; omega) | exact Or.inl rfl | exact Or.inr rfl) (by first | (intro h; exfalso; omega) | exact fun _ => k_6745 | exact fun _ => (False.elim (by omega))) k_6746 k_6747 k_6748)
                · have d_7048 := iNe c_6724
                  have i_7049 := u_6721 (by omega)
                  have i_7050 := u_6722 (by omega)
                  unfold fModel_unit_131
                  have g_7051 : (0 : Int) ≤ (I_5208 o 46).toInt ∧ (I_5208 o 46).toInt ≤ 100 := hR_5210.at0 ra 46 (by decide)
                  have l_7052 : (100 : Int32).toInt = 100 := rfl
                  refine ⟨fun c_7053 => ?_, fun c_7053 => ?_⟩
                  · have d_7054 := iNe c_7053
                    refine y_Model_isGood hok hw ra hR_5210 (fun r_7055 u_7056 u_7057 u_7058 => ⟨r_7055, I_5208, L_5209, rfl, rfl, ?_⟩)
                    have b_7059 : 0 ≤ r_7055.toInt ∧ r_7055.toInt ≤ 1 := u_7056.rg
                    refine ⟨fun c_7060 => ?_, fun c_7060 => ?_⟩
                    · have d_7061 := iNe c_7060
                      have i_7062 := u_7057 (by omega)
                      have g_7063 : (0 : Int) ≤ (I_5208 o 46).toInt ∧ (I_5208 o 46).toInt ≤ 100 := hR_5210.at0 ra 46 (by decide)
                      have a_7064 : ((I_5208 o 46) + 1).toInt = (I_5208 o 46).toInt + (1 : Int32).toInt := tAdd (by omega) (by omega)
                      refine fun I_7065 e_7066 => ?_
                      have hR_7067 : RI R I_7065 := hR_5210.up0 (k := 46) ra (by decide) (Or.inr hz56) e_7066 (show (0 : Int) ≤ ((I_5208 o 46) + 1).toInt by omega) (show ((I_5208 o 46) + 1).toInt ≤ (100 : Int) by omega)
                      have hf_7068 : Fm (fun c => c = o ∨ (o + 30 ≤ c ∧ c < o + 34)) I0 I_7065 := hf_5213.set (by first | rfl | omega | (dsimp only; omega)) e_7066
                      have t_7069 : (I_7065 o 3).toInt = (I_5208 o 3).toInt := by rw [← e_7066, q_u_k (by decide)]
                      have t_7070 : (I_7065 o 4).toInt = (I_5208 o 4).toInt := by rw [← e_7066, q_u_k (by decide)]
                      have t_7071 : (I_7065 o 6).toInt = (I_5208 o 6).toInt := by rw [← e_7066, q_u_k (by decide)]
                      have t_7072 : (I_7065 o 7).toInt = (I_5208 o 7).toInt := by rw [← e_7066, q_u_k (by decide)]
                      have t_7073 : (I_7065 o 8).toInt = (I_5208 o 8).toInt := by rw [← e_7066, q_u_k (by decide)]
                      have t_7074 : (I_7065 o 9).toInt = (I_5208 o 9).toInt := by rw [← e_7066, q_u_k (by decide)]
                      have t_7075 : (I_7065 o 44).toInt = (I_5208 o 44).toInt := by rw [← e_7066, q_u_k (by decide)]
                      have t_7076 : (I_7065 o 45).toInt = (I_5208 o 45).toInt := by rw [← e_7066, q_u_k (by decide)]
                      have t_7077 : (I_7065 o 47).toInt = (I_5208 o 47).toInt := by rw [← e_7066, q_u_k (by decide)]
                      have t_7078 : (I_7065 o 48).toInt = (I_5208 o 48).toInt := by rw [← e_7066, q_u_k (by decide)]
                      have t_7079 : (I_7065 o 46).toInt = ((I_5208 o 46) + 1).toInt := by rw [← e_7066, q_u_at]
                      have k_7080 : EX 0 0 0 f0 1 I_7065 o := k_5224.fr (by rw [← e_7066]; exact q_u_ne (by omega)) (by rw [← e_7066]; exact q_u_ne (by omega)) (by rw [← e_7066]; exact q_u_ne (by omega)) (by rw [← e_7066]; exact q_u_ne (by omega)) (by rw [← e_7066]; exact q_u_ne (by omega)) (by rw [← e_7066, q_u_k (by decide)]) (by rw [← e_7066, q_u_k (by decide)]) (by rw [← e_7066, q_u_k (by decide)]) (by rw [← e_7066, q_u_k (by decide)]) (by rw [← e_7066, q_u_k (by decide)]) (by rw [← e_7066, q_u_k (by decide)])
                      have k_7081 : MTd I_7065 o := k_5225.fr (by rw [← e_7066]; exact q_u_ne (by omega)) (by rw [← e_7066]; exact q_u_ne (by omega)) (by rw [← e_7066]; exact q_u_ne (by omega))
                      have k_7082 : MPo I_7065 o := k_5226.fr (by rw [← e_7066, q_u_k (by decide)]) (by rw [← e_7066, q_u_k (by decide)])
                      have k_7083 : MTk I_7065 o := k_5227.fr (by rw [← e_7066, q_u_k (by decide)]) (by rw [← e_7066, q_u_k (by decide)]) (by rw [← e_7066, q_u_k (by decide)])
                      refine y_Model_is hok hw ra hR_7067 (fun r_7084 u_7085 u_7086 u_7087 => ⟨r_7084, I_7065, L_5209, rfl, rfl, ?_⟩)
                      have b_7088 : 0 ≤ r_7084.toInt ∧ r_7084.toInt ≤ 1 := u_7085.rg
                      refine ⟨fun c_7089 => ?_, fun c_7089 => ?_⟩
                      · have d_7090 := iEq c_7089
                        have cd := k_7080.cod
                        have tk := k_7083.2 (by omega)
                        refine ⟨fun c_7091 => ?_, fun c_7091 => ?_⟩
                        · have d_7092 := iNe c_7091
                          have i_7093 := u_5205 (by omega)
                          have i_7094 := u_5206 (by omega)
                          exfalso; omega
                        · have d_7095 := iEq c_7091
                          unfold fModel_unit_228
                          have l_7096 : (78 : Int32).toInt = 78 := rfl
                          refine ⟨fun c_7097 => ?_, fun c_7097 => ?_⟩
                          · have d_7098 := iNe c_7097
                            have i_7099 := u_5205 (by omega)
                            have i_7100 := u_5206 (by omega)
                            exfalso; omega
                          · have d_7101 := iEq c_7097
                            refine y_Model_step hok hw ra hz55 (by first | omega | (intro h; omega) | exact Or.inl rfl | exact Or.inr rfl) (by first | omega | (intro h; omega) | exact Or.inl rfl | exact Or.inr rfl) hR_7067 (fun I_7105 L_7106 hR_7107 fr_7108 kp_7109 u_7103 u_7104 => ⟨I_7105, L_7106, rfl, rfl, ?_⟩)
                            have hf_7110 : Fm (fun c => c = o ∨ (o + 30 ≤ c ∧ c < o + 34)) I0 I_7105 := hf_7068.call fr_7108 (fun c hc => by first | exact hc | (dsimp only at hc ⊢; omega) | omega)
                            have t_7111 : (I_7105 o 3).toInt = (I_7065 o 3).toInt := by rw [kp_7109 3 rfl]
                            have t_7112 : (I_7105 o 4).toInt = (I_7065 o 4).toInt := by rw [kp_7109 4 rfl]
                            have t_7113 : (I_7105 o 6).toInt = (I_7065 o 6).toInt := by rw [kp_7109 6 rfl]
                            have t_7114 : (I_7105 o 7).toInt = (I_7065 o 7).toInt := by rw [kp_7109 7 rfl]
                            have t_7115 : (I_7105 o 8).toInt = (I_7065 o 8).toInt := by rw [kp_7109 8 rfl]
                            have t_7116 : (I_7105 o 9).toInt = (I_7065 o 9).toInt := by rw [kp_7109 9 rfl]
                            have t_7117 : (I_7105 o 44).toInt = (I_7065 o 44).toInt := by rw [kp_7109 44 rfl]
                            have g_7118 : (0 : Int) ≤ (I_7105 o 45).toInt ∧ (I_7105 o 45).toInt ≤ 700 := hR_7107.at0 ra 45 (by decide)
                            have t_7119 : (I_7105 o 47).toInt = (I_7065 o 47).toInt := by rw [kp_7109 47 rfl]
                            have t_7120 : (I_7105 o 48).toInt = (I_7065 o 48).toInt := by rw [kp_7109 48 rfl]
                            have t_7121 : (I_7105 o 46).toInt = (I_7065 o 46).toInt := by rw [kp_7109 46 rfl]
                            have k_7122 : MPo I_7105 o := k_7082.fr (kp_7109 8 rfl) (kp_7109 9 rfl)
                            have k_7123 : MTk I_7105 o := k_7083.fr (kp_7109 6 rfl) (kp_7109 7 rfl) (kp_7109 8 rfl)
                            have tk := k_7123.2 (by omega)
                            have k_7124 : EX 0 0 1 f0 0 I_7105 o := by exact EX.step1 k_7080 (by first | exact u_5205 (by omega) | (unfold isT; decide)) (by omega) (fr_7108 _ (by first | omega | (dsimp only; omega))) (fr_7108 _ (by first | omega | (dsimp only; omega))) u_7103 (fr_7108 _ (by first | omega | (dsimp only; omega))) (fr_7108 _ (by first | omega | (dsimp only; omega))) (kp_7109 3 rfl) (kp_7109 6 rfl) (kp_7109 44 rfl) u_7104 (kp_7109 47 rfl) (kp_7109 48 rfl)
                            have k_7125 : MTd I_7105 o := by exact MTd.step k_7081 (fr_7108 _ (by first | omega | (dsimp only; omega))) (fr_7108 _ (by first | omega | (dsimp only; omega))) u_7103 (by omega)
                            refine y_Model_next hok hw ra hz16 hz17 hz18 hz19 (by first | omega | (intro h; omega) | exact Or.inl rfl | exact Or.inr rfl) hR_7107 (fun I_7135 L_7136 hR_7137 fr_7138 kp_7139 u_7127 u_7128 u_7129 u_7130 u_7131 u_7132 u_7133 u_7134 => ⟨I_7135, L_7136, rfl, rfl, ?_⟩)
                            have hf_7140 : Fm (fun c => c = o ∨ (o + 30 ≤ c ∧ c < o + 34)) I0 I_7135 := hf_7110.call fr_7138 (fun c hc => by first | exact hc | (dsimp only at hc ⊢; omega) | omega)
                            have t_7141 : (I_7135 o 3).toInt = (I_7105 o 3).toInt := by rw [kp_7139 3 rfl]
                            have t_7142 : (I_7135 o 4).toInt = (I_7105 o 4).toInt := by rw [kp_7139 4 rfl]
                            have g_7143 : (0 : Int) ≤ (I_7135 o 6).toInt ∧ (I_7135 o 6).toInt ≤ 1600 := hR_7137.at0 ra 6 (by decide)
                            have g_7144 : (0 : Int) ≤ (I_7135 o 7).toInt ∧ (I_7135 o 7).toInt ≤ 1601 := hR_7137.at0 ra 7 (by decide)
                            have g_7145 : (0 : Int) ≤ (I_7135 o 8).toInt ∧ (I_7135 o 8).toInt ≤ 6 := hR_7137.at0 ra 8 (by decide)
                            have t_7146 : (I_7135 o 44).toInt = (I_7105 o 44).toInt := by rw [kp_7139 44 rfl]
                            have t_7147 : (I_7135 o 45).toInt = (I_7105 o 45).toInt := by rw [kp_7139 45 rfl]
                            have t_7148 : (I_7135 o 47).toInt = (I_7105 o 47).toInt := by rw [kp_7139 47 rfl]
                            have t_7149 : (I_7135 o 48).toInt = (I_7105 o 48).toInt := by rw [kp_7139 48 rfl]
                            have t_7150 : (I_7135 o 46).toInt = (I_7105 o 46).toInt := by rw [kp_7139 46 rfl]
                            have k_7151 : MTd I_7135 o := k_7125.fr (fr_7138 _ (by first | omega | (dsimp only; omega))) (fr_7138 _ (by first | omega | (dsimp only; omega))) (fr_7138 _ (by first | omega | (dsimp only; omega)))
                            have ms := u_7130 (by omega)
                            have k_7152 : EX 0 0 0 f0 0 I_7135 o := by exact EX.nx k_7124 (fr_7138 _ (by first | omega | (dsimp only; omega))) (fr_7138 _ (by first | omega | (dsimp only; omega))) (fr_7138 _ (by first | omega | (dsimp only; omega))) (fr_7138 _ (by first | omega | (dsimp only; omega))) (fr_7138 _ (by first | omega | (dsimp only; omega))) (kp_7139 3 rfl) (kp_7139 44 rfl) (kp_7139 45 rfl) (kp_7139 47 rfl) (kp_7139 48 rfl) (by omega) (by omega)
                            exact (hp _ _ _ hR_7137 hf_7140 (Or.inl rfl) (by first | omega | (intro h; omega) | exact Or.inl rfl | exact Or.inr rfl) (by first | omega | (intro h; omega) | exact Or.inl rfl | exact Or.inr rfl) (by first | omega | (intro h; omega) | exact Or.inl rfl | exact Or.inr rfl) (by first | omega | (intro h; omega) | exact Or.inl rfl | exact Or.inr rfl) (by first | omega | (intro h; omega) | exact Or.inl rfl | exact Or.inr rfl) (by first | (intro h; exfalso; omega) | exact fun _ => (False.elim (by omega)) | exact fun _ => k_7152) k_7151 u_7133 u_7134)
                      · have d_7153 := iNe c_7089
                        have i_7154 := u_7086 (by omega)
                        have i_7155 := u_7087 (by omega)
                        have g_7156 : (0 : Int) ≤ (I_7065 o 47).toInt ∧ (I_7065 o 47).toInt ≤ 7 := hR_7067.at0 ra 47 (by decide)
                        refine ⟨fun c_7157 => ?_, fun c_7157 => ?_⟩
                        · have d_7158 := iNe c_7157
                          refine y_Model_isGood hok hw ra hR_7067 (fun r_7159 u_7160 u_7161 u_7162 => ⟨r_7159, I_7065, L_5209, rfl, rfl, ?_⟩)
                          have b_7163 : 0 ≤ r_7159.toInt ∧ r_7159.toInt ≤ 1 := u_7160.rg
                          refine ⟨fun c_7164 => ?_, fun c_7164 => ?_⟩
                          · have d_7165 := iNe c_7164
                            have i_7166 := u_7161 (by omega)
                            refine y_Model_pile hok hw ra hz58 (by first | omega | (intro h; omega) | exact Or.inl rfl | exact Or.inr rfl) (by first | omega | (intro h; omega) | exact Or.inl rfl | exact Or.inr rfl) hR_7067 (fun I_7171 L_7172 hR_7173 fr_7174 kp_7175 u_7168 u_7169 u_7170 => ⟨I_7171, L_7172, rfl, rfl, ?_⟩)
                            have hf_7176 : Fm (fun c => c = o ∨ (o + 30 ≤ c ∧ c < o + 34)) I0 I_7171 := hf_7068.call fr_7174 (fun c hc => by first | exact hc | (dsimp only at hc ⊢; omega) | omega)
                            have t_7177 : (I_7171 o 3).toInt = (I_7065 o 3).toInt := by rw [kp_7175 3 rfl]
                            have t_7178 : (I_7171 o 4).toInt = (I_7065 o 4).toInt := by rw [kp_7175 4 rfl]
                            have t_7179 : (I_7171 o 6).toInt = (I_7065 o 6).toInt := by rw [kp_7175 6 rfl]
                            have t_7180 : (I_7171 o 7).toInt = (I_7065 o 7).toInt := by rw [kp_7175 7 rfl]
                            have t_7181 : (I_7171 o 8).toInt = (I_7065 o 8).toInt := by rw [kp_7175 8 rfl]
                            have t_7182 : (I_7171 o 9).toInt = (I_7065 o 9).toInt := by rw [kp_7175 9 rfl]
                            have t_7183 : (I_7171 o 44).toInt = (I_7065 o 44).toInt := by rw [kp_7175 44 rfl]
                            have t_7184 : (I_7171 o 45).toInt = (I_7065 o 45).toInt := by rw [kp_7175 45 rfl]
                            have t_7185 : (I_7171 o 47).toInt = (I_7065 o 47).toInt := by rw [kp_7175 47 rfl]
                            have g_7186 : (0 : Int) ≤ (I_7171 o 48).toInt ∧ (I_7171 o 48).toInt ≤ 80 := hR_7173.at0 ra 48 (by decide)
                            have t_7187 : (I_7171 o 46).toInt = (I_7065 o 46).toInt := by rw [kp_7175 46 rfl]
                            have k_7188 : MTd I_7171 o := k_7081.fr (fr_7174 _ (by first | omega | (dsimp only; omega))) (fr_7174 _ (by first | omega | (dsimp only; omega))) (fr_7174 _ (by first | omega | (dsimp only; omega)))
                            have k_7189 : MPo I_7171 o := k_7082.fr (kp_7175 8 rfl) (kp_7175 9 rfl)
                            have k_7190 : MTk I_7171 o := k_7083.fr (kp_7175 6 rfl) (kp_7175 7 rfl) (kp_7175 8 rfl)
                            have k_7191 : EX 0 1 1 f0 1 I_7171 o := by have z := EX.push k_7080 (v := 7) (s := 0) (dB := 1) (dO := 0) (wt' := 1) (by decide) (by decide) (by decide) (by omega) ⟨by decide, by decide⟩ ⟨fun h => absurd h (by decide), fun h => absurd h (by decide)⟩ (Or.inl rfl) (fr_7174 _ (by first | omega | (dsimp only; omega))) (fr_7174 _ (by first | omega | (dsimp only; omega))) (fr_7174 _ (by first | omega | (dsimp only; omega))) u_7168 u_7169 (kp_7175 3 rfl) (kp_7175 6 rfl) (kp_7175 44 rfl) (kp_7175 45 rfl) (kp_7175 47 rfl) u_7170; exact EX.chg (b' := 1) z rfl rfl rfl rfl rfl rfl rfl rfl rfl rfl (by omega) z.pl
                            have g_7192 : (0 : Int) ≤ (I_7171 o 47).toInt ∧ (I_7171 o 47).toInt ≤ 7 := hR_7173.at0 ra 47 (by decide)
                            have a_7193 : ((I_7171 o 47) + 1).toInt = (I_7171 o 47).toInt + (1 : Int32).toInt := tAdd (by omega) (by omega)
                            refine fun I_7194 e_7195 => ?_
                            have hR_7196 : RI R I_7194 := hR_7173.up0 (k := 47) ra (by decide) (Or.inr hz57) e_7195 (show (0 : Int) ≤ ((I_7171 o 47) + 1).toInt by omega) (show ((I_7171 o 47) + 1).toInt ≤ (7 : Int) by omega)
                            have hf_7197 : Fm (fun c => c = o ∨ (o + 30 ≤ c ∧ c < o + 34)) I0 I_7194 := hf_7176.set (by first | rfl | omega | (dsimp only; omega)) e_7195
                            have t_7198 : (I_7194 o 3).toInt = (I_7171 o 3).toInt := by rw [← e_7195, q_u_k (by decide)]
                            have t_7199 : (I_7194 o 4).toInt = (I_7171 o 4).toInt := by rw [← e_7195, q_u_k (by decide)]
                            have t_7200 : (I_7194 o 6).toInt = (I_7171 o 6).toInt := by rw [← e_7195, q_u_k (by decide)]
                            have t_7201 : (I_7194 o 7).toInt = (I_7171 o 7).toInt := by rw [← e_7195, q_u_k (by decide)]
                            have t_7202 : (I_7194 o 8).toInt = (I_7171 o 8).toInt := by rw [← e_7195, q_u_k (by decide)]
                            have t_7203 : (I_7194 o 9).toInt = (I_7171 o 9).toInt := by rw [← e_7195, q_u_k (by decide)]
                            have t_7204 : (I_7194 o 44).toInt = (I_7171 o 44).toInt := by rw [← e_7195, q_u_k (by decide)]
                            have t_7205 : (I_7194 o 45).toInt = (I_7171 o 45).toInt := by rw [← e_7195, q_u_k (by decide)]
                            have t_7206 : (I_7194 o 47).toInt = ((I_7171 o 47) + 1).toInt := by rw [← e_7195, q_u_at]
                            have t_7207 : (I_7194 o 48).toInt = (I_7171 o 48).toInt := by rw [← e_7195, q_u_k (by decide)]
                            have t_7208 : (I_7194 o 46).toInt = (I_7171 o 46).toInt := by rw [← e_7195, q_u_k (by decide)]
                            have k_7209 : MTd I_7194 o := k_7188.fr (by rw [← e_7195]; exact q_u_ne (by omega)) (by rw [← e_7195]; exact q_u_ne (by omega)) (by rw [← e_7195]; exact q_u_ne (by omega))
                            have k_7210 : MPo I_7194 o := k_7189.fr (by rw [← e_7195, q_u_k (by decide)]) (by rw [← e_7195, q_u_k (by decide)])
                            have k_7211 : MTk I_7194 o := k_7190.fr (by rw [← e_7195, q_u_k (by decide)]) (by rw [← e_7195, q_u_k (by decide)]) (by rw [← e_7195, q_u_k (by decide)])
                            have tk := k_7211.2 (by omega)
                            have k_7213 : EX 0 0 1 f0 1 I_7194 o := by exact EX.put47 k_7191 e_7195 (by omega)
                            refine y_Model_next hok hw ra hz16 hz17 hz18 hz19 (by first | omega | (intro h; omega) | exact Or.inl rfl | exact Or.inr rfl) hR_7196 (fun I_7223 L_7224 hR_7225 fr_7226 kp_7227 u_7215 u_7216 u_7217 u_7218 u_7219 u_7220 u_7221 u_7222 => ⟨I_7223, L_7224, rfl, rfl, ?_⟩)
                            have hf_7228 : Fm (fun c => c = o ∨ (o + 30 ≤ c ∧ c < o + 34)) I0 I_7223 := hf_7197.call fr_7226 (fun c hc => by first | exact hc | (dsimp only at hc ⊢; omega) | omega)
                            have t_7229 : (I_7223 o 3).toInt = (I_7194 o 3).toInt := by rw [kp_7227 3 rfl]
                            have t_7230 : (I_7223 o 4).toInt = (I_7194 o 4).toInt := by rw [kp_7227 4 rfl]
                            have g_7231 : (0 : Int) ≤ (I_7223 o 6).toInt ∧ (I_7223 o 6).toInt ≤ 1600 := hR_7225.at0 ra 6 (by decide)
                            have g_7232 : (0 : Int) ≤ (I_7223 o 7).toInt ∧ (I_7223 o 7).toInt ≤ 1601 := hR_7225.at0 ra 7 (by decide)
                            have g_7233 : (0 : Int) ≤ (I_7223 o 8).toInt ∧ (I_7223 o 8).toInt ≤ 6 := hR_7225.at0 ra 8 (by decide)
                            have t_7234 : (I_7223 o 44).toInt = (I_7194 o 44).toInt := by rw [kp_7227 44 rfl]
                            have t_7235 : (I_7223 o 45).toInt = (I_7194 o 45).toInt := by rw [kp_7227 45 rfl]
                            have t_7236 : (I_7223 o 47).toInt = (I_7194 o 47).toInt := by rw [kp_7227 47 rfl]
                            have t_7237 : (I_7223 o 48).toInt = (I_7194 o 48).toInt := by rw [kp_7227 48 rfl]
                            have t_7238 : (I_7223 o 46).toInt = (I_7194 o 46).toInt := by rw [kp_7227 46 rfl]
                            have k_7239 : MTd I_7223 o := k_7209.fr (fr_7226 _ (by first | omega | (dsimp only; omega))) (fr_7226 _ (by first | omega | (dsimp only; omega))) (fr_7226 _ (by first | omega | (dsimp only; omega)))
                            have ms := u_7218 (by omega)
                            have k_7240 : EX 0 0 0 f0 1 I_7223 o := by exact EX.nx k_7213 (fr_7226 _ (by first | omega | (dsimp only; omega))) (fr_7226 _ (by first | omega | (dsimp only; omega))) (fr_7226 _ (by first | omega | (dsimp only; omega))) (fr_7226 _ (by first | omega | (dsimp only; omega))) (fr_7226 _ (by first | omega | (dsimp only; omega))) (kp_7227 3 rfl) (kp_7227 44 rfl) (kp_7227 45 rfl) (kp_7227 47 rfl) (kp_7227 48 rfl) (by omega) (by omega)
                            exact (hp _ _ _ hR_7225 hf_7228 (Or.inr rfl) (by first | omega | (intro h; omega) | exact Or.inl rfl | exact Or.inr rfl) (by first | omega | (intro h; omega) | exact Or.inl rfl | exact Or.inr rfl) (by first | omega | (intro h; omega) | exact Or.inl rfl | exact Or.inr rfl) (by first | omega | (intro h; omega) | exact Or.inl rfl | exact Or.inr rfl) (by first | omega | (intro h; omega) | exact Or.inl rfl | exact Or.inr rfl) (by first | (intro h; exfalso; omega) | exact fun _ => k_7240 | exact fun _ => (False.elim (by omega))) k_7239 u_7221 u_7222)
                          · have d_7241 := iEq c_7164
                            have i_7242 := u_7162 (by omega)
                            exact (hp _ _ _ hR_7067 hf_7068 (Or.inr rfl) (by first | omega | (intro h; omega) | exact Or.inl rfl | exact Or.inr rfl) (by first | omega | (intro h; omega) | exact Or.inl rfl | exact Or.inr rfl) (by first | omega | (intro h; omega) | exact Or.inl rfl | exact Or.inr rfl) (by first | omega | (intro h; omega) | exact Or.inl rfl | exact Or.inr rfl) (by first | omega | (intro h; omega) | exact Or.inl rfl | exact Or.inr rfl) (by first | (intro h; exfalso; omega) | exact fun _ => k_7080 | exact fun _ => (False.elim (by omega))) k_7081 k_7082 k_7083)
                        · have d_7243 := iEq c_7157
                          refine y_Model_wrong hok hw ra hz14 hz15 hR_7067 (fun I_7247 L_7248 hR_7249 fr_7250 kp_7251 u_7245 u_7246 => ⟨I_7247, L_7248, rfl, rfl, ?_⟩)
                          have hf_7252 : Fm (fun c => c = o ∨ (o + 30 ≤ c ∧ c < o + 34)) I0 I_7247 := hf_7068.call fr_7250 (fun c hc => by first | exact hc | (dsimp only at hc ⊢; omega) | omega)
                          have t_7253 : (I_7247 o 3).toInt = (I_7065 o 3).toInt := by rw [kp_7251 3 rfl]
                          have g_7254 : (0 : Int) ≤ (I_7247 o 4).toInt ∧ (I_7247 o 4).toInt ≤ 5 := hR_7249.at0 ra 4 (by decide)
                          have t_7255 : (I_7247 o 6).toInt = (I_7065 o 6).toInt := by rw [kp_7251 6 rfl]
                          have t_7256 : (I_7247 o 7).toInt = (I_7065 o 7).toInt := by rw [kp_7251 7 rfl]
                          have t_7257 : (I_7247 o 8).toInt = (I_7065 o 8).toInt := by rw [kp_7251 8 rfl]
                          have t_7258 : (I_7247 o 9).toInt = (I_7065 o 9).toInt := by rw [kp_7251 9 rfl]
                          have t_7259 : (I_7247 o 44).toInt = (I_7065 o 44).toInt := by rw [kp_7251 44 rfl]
                          have t_7260 : (I_7247 o 45).toInt = (I_7065 o 45).toInt := by rw [kp_7251 45 rfl]
                          have t_7261 : (I_7247 o 47).toInt = (I_7065 o 47).toInt := by rw [kp_7251 47 rfl]
                          have t_7262 : (I_7247 o 48).toInt = (I_7065 o 48).toInt := by rw [kp_7251 48 rfl]
                          have t_7263 : (I_7247 o 46).toInt = (I_7065 o 46).toInt := by rw [kp_7251 46 rfl]
                          have k_7264 : EX 0 0 0 f0 1 I_7247 o := k_7080.fr (fr_7250 _ (by first | omega | (dsimp only; omega))) (fr_7250 _ (by first | omega | (dsimp only; omega))) (fr_7250 _ (by first | omega | (dsimp only; omega))) (fr_7250 _ (by first | omega | (dsimp only; omega))) (fr_7250 _ (by first | omega | (dsimp only; omega))) (kp_7251 3 rfl) (kp_7251 6 rfl) (kp_7251 44 rfl) (kp_7251 45 rfl) (kp_7251 47 rfl) (kp_7251 48 rfl)
                          have k_7265 : MTd I_7247 o := k_7081.fr (fr_7250 _ (by first | omega | (dsimp only; omega))) (fr_7250 _ (by first | omega | (dsimp only; omega))) (fr_7250 _ (by first | omega | (dsimp only; omega)))
                          have k_7266 : MPo I_7247 o := k_7082.fr (kp_7251 8 rfl) (kp_7251 9 rfl)
                          have k_7267 : MTk I_7247 o := k_7083.fr (kp_7251 6 rfl) (kp_7251 7 rfl) (kp_7251 8 rfl)
                          refine y_Model_isGood hok hw ra hR_7249 (fun r_7268 u_7269 u_7270 u_7271 => ⟨r_7268, I_7247, L_7248, rfl, rfl, ?_⟩)
                          have b_7272 : 0 ≤ r_7268.toInt ∧ r_7268.toInt ≤ 1 := u_7269.rg
                          refine ⟨fun c_7273 => ?_, fun c_7273 => ?_⟩
                          · have d_7274 := iNe c_7273
                            have i_7275 := u_7270 (by omega)
                            refine y_Model_pile hok hw ra hz58 (by first | omega | (intro h; omega) | exact Or.inl rfl | exact Or.inr rfl) (by first | omega | (intro h; omega) | exact Or.inl rfl | exact Or.inr rfl) hR_7249 (fun I_7280 L_7281 hR_7282 fr_7283 kp_7284 u_7277 u_7278 u_7279 => ⟨I_7280, L_7281, rfl, rfl, ?_⟩)
                            have hf_7285 : Fm (fun c => c = o ∨ (o + 30 ≤ c ∧ c < o + 34)) I0 I_7280 := hf_7252.call fr_7283 (fun c hc => by first | exact hc | (dsimp only at hc ⊢; omega) | omega)
                            have t_7286 : (I_7280 o 3).toInt = (I_7247 o 3).toInt := by rw [kp_7284 3 rfl]
                            have t_7287 : (I_7280 o 4).toInt = (I_7247 o 4).toInt := by rw [kp_7284 4 rfl]
                            have t_7288 : (I_7280 o 6).toInt = (I_7247 o 6).toInt := by rw [kp_7284 6 rfl]
                            have t_7289 : (I_7280 o 7).toInt = (I_7247 o 7).toInt := by rw [kp_7284 7 rfl]
                            have t_7290 : (I_7280 o 8).toInt = (I_7247 o 8).toInt := by rw [kp_7284 8 rfl]
                            have t_7291 : (I_7280 o 9).toInt = (I_7247 o 9).toInt := by rw [kp_7284 9 rfl]
                            have t_7292 : (I_7280 o 44).toInt = (I_7247 o 44).toInt := by rw [kp_7284 44 rfl]
                            have t_7293 : (I_7280 o 45).toInt = (I_7247 o 45).toInt := by rw [kp_7284 45 rfl]
                            have t_7294 : (I_7280 o 47).toInt = (I_7247 o 47).toInt := by rw [kp_7284 47 rfl]
                            have g_7295 : (0 : Int) ≤ (I_7280 o 48).toInt ∧ (I_7280 o 48).toInt ≤ 80 := hR_7282.at0 ra 48 (by decide)
                            have t_7296 : (I_7280 o 46).toInt = (I_7247 o 46).toInt := by rw [kp_7284 46 rfl]
                            have k_7297 : MTd I_7280 o := k_7265.fr (fr_7283 _ (by first | omega | (dsimp only; omega))) (fr_7283 _ (by first | omega | (dsimp only; omega))) (fr_7283 _ (by first | omega | (dsimp only; omega)))
                            have k_7298 : MPo I_7280 o := k_7266.fr (kp_7284 8 rfl) (kp_7284 9 rfl)
                            have k_7299 : MTk I_7280 o := k_7267.fr (kp_7284 6 rfl) (kp_7284 7 rfl) (kp_7284 8 rfl)
                            have k_7300 : EX 0 1 1 f0 1 I_7280 o := by have z := EX.push k_7264 (v := 7) (s := 0) (dB := 1) (dO := 0) (wt' := 1) (by decide) (by decide) (by decide) (by omega) ⟨by decide, by decide⟩ ⟨fun h => absurd h (by decide), fun h => absurd h (by decide)⟩ (Or.inl rfl) (fr_7283 _ (by first | omega | (dsimp only; omega))) (fr_7283 _ (by first | omega | (dsimp only; omega))) (fr_7283 _ (by first | omega | (dsimp only; omega))) u_7277 u_7278 (kp_7284 3 rfl) (kp_7284 6 rfl) (kp_7284 44 rfl) (kp_7284 45 rfl) (kp_7284 47 rfl) u_7279; exact EX.chg (b' := 1) z rfl rfl rfl rfl rfl rfl rfl rfl rfl rfl (by omega) z.pl
                            have g_7301 : (0 : Int) ≤ (I_7280 o 47).toInt ∧ (I_7280 o 47).toInt ≤ 7 := hR_7282.at0 ra 47 (by decide)
                            have a_7302 : ((I_7280 o 47) + 1).toInt = (I_7280 o 47).toInt + (1 : Int32).toInt := tAdd (by omega) (by omega)
                            refine fun I_7303 e_7304 => ?_
                            have hR_7305 : RI R I_7303 := hR_7282.up0 (k := 47) ra (by decide) (Or.inr hz57) e_7304 (show (0 : Int) ≤ ((I_7280 o 47) + 1).toInt by omega) (show ((I_7280 o 47) + 1).toInt ≤ (7 : Int) by omega)
                            have hf_7306 : Fm (fun c => c = o ∨ (o + 30 ≤ c ∧ c < o + 34)) I0 I_7303 := hf_7285.set (by first | rfl | omega | (dsimp only; omega)) e_7304
                            have t_7307 : (I_7303 o 3).toInt = (I_7280 o 3).toInt := by rw [← e_7304, q_u_k (by decide)]
                            have t_7308 : (I_7303 o 4).toInt = (I_7280 o 4).toInt := by rw [← e_7304, q_u_k (by decide)]
                            have t_7309 : (I_7303 o 6).toInt = (I_7280 o 6).toInt := by rw [← e_7304, q_u_k (by decide)]
                            have t_7310 : (I_7303 o 7).toInt = (I_7280 o 7).toInt := by rw [← e_7304, q_u_k (by decide)]
                            have t_7311 : (I_7303 o 8).toInt = (I_7280 o 8).toInt := by rw [← e_7304, q_u_k (by decide)]
                            have t_7312 : (I_7303 o 9).toInt = (I_7280 o 9).toInt := by rw [← e_7304, q_u_k (by decide)]
                            have t_7313 : (I_7303 o 44).toInt = (I_7280 o 44).toInt := by rw [← e_7304, q_u_k (by decide)]
                            have t_7314 : (I_7303 o 45).toInt = (I_7280 o 45).toInt := by rw [← e_7304, q_u_k (by decide)]
                            have t_7315 : (I_7303 o 47).toInt = ((I_7280 o 47) + 1).toInt := by rw [← e_7304, q_u_at]
                            have t_7316 : (I_7303 o 48).toInt = (I_7280 o 48).toInt := by rw [← e_7304, q_u_k (by decide)]
                            have t_7317 : (I_7303 o 46).toInt = (I_7280 o 46).toInt := by rw [← e_7304, q_u_k (by decide)]
                            have k_7318 : MTd I_7303 o := k_7297.fr (by rw [← e_7304]; exact q_u_ne (by omega)) (by rw [← e_7304]; exact q_u_ne (by omega)) (by rw [← e_7304]; exact q_u_ne (by omega))
                            have k_7319 : MPo I_7303 o := k_7298.fr (by rw [← e_7304, q_u_k (by decide)]) (by rw [← e_7304, q_u_k (by decide)])
                            have k_7320 : MTk I_7303 o := k_7299.fr (by rw [← e_7304, q_u_k (by decide)]) (by rw [← e_7304, q_u_k (by decide)]) (by rw [← e_7304, q_u_k (by decide)])
                            have tk := k_7320.2 (by omega)
                            have k_7322 : EX 0 0 1 f0 1 I_7303 o := by exact EX.put47 k_7300 e_7304 (by omega)
                            refine y_Model_next hok hw ra hz16 hz17 hz18 hz19 (by first | omega | (intro h; omega) | exact Or.inl rfl | exact Or.inr rfl) hR_7305 (fun I_7332 L_7333 hR_7334 fr_7335 kp_7336 u_7324 u_7325 u_7326 u_7327 u_7328 u_7329 u_7330 u_7331 => ⟨I_7332, L_7333, rfl, rfl, ?_⟩)
                            have hf_7337 : Fm (fun c => c = o ∨ (o + 30 ≤ c ∧ c < o + 34)) I0 I_7332 := hf_7306.call fr_7335 (fun c hc => by first | exact hc | (dsimp only at hc ⊢; omega) | omega)
                            have t_7338 : (I_7332 o 3).toInt = (I_7303 o 3).toInt := by rw [kp_7336 3 rfl]
                            have t_7339 : (I_7332 o 4).toInt = (I_7303 o 4).toInt := by rw [kp_7336 4 rfl]
                            have g_7340 : (0 : Int) ≤ (I_7332 o 6).toInt ∧ (I_7332 o 6).toInt ≤ 1600 := hR_7334.at0 ra 6 (by decide)
                            have g_7341 : (0 : Int) ≤ (I_7332 o 7).toInt ∧ (I_7332 o 7).toInt ≤ 1601 := hR_7334.at0 ra 7 (by decide)
                            have g_7342 : (0 : Int) ≤ (I_7332 o 8).toInt ∧ (I_7332 o 8).toInt ≤ 6 := hR_7334.at0 ra 8 (by decide)
                            have t_7343 : (I_7332 o 44).toInt = (I_7303 o 44).toInt := by rw [kp_7336 44 rfl]
                            have t_7344 : (I_7332 o 45).toInt = (I_7303 o 45).toInt := by rw [kp_7336 45 rfl]
                            have t_7345 : (I_7332 o 47).toInt = (I_7303 o 47).toInt := by rw [kp_7336 47 rfl]
                            have t_7346 : (I_7332 o 48).toInt = (I_7303 o 48).toInt := by rw [kp_7336 48 rfl]
                            have t_7347 : (I_7332 o 46).toInt = (I_7303 o 46).toInt := by rw [kp_7336 46 rfl]
                            have k_7348 : MTd I_7332 o := k_7318.fr (fr_7335 _ (by first | omega | (dsimp only; omega))) (fr_7335 _ (by first | omega | (dsimp only; omega))) (fr_7335 _ (by first | omega | (dsimp only; omega)))
                            have ms := u_7327 (by omega)
                            have k_7349 : EX 0 0 0 f0 1 I_7332 o := by exact EX.nx k_7322 (fr_7335 _ (by first | omega | (dsimp only; omega))) (fr_7335 _ (by first | omega | (dsimp only; omega))) (fr_7335 _ (by first | omega | (dsimp only; omega))) (fr_7335 _ (by first | omega | (dsimp only; omega))) (fr_7335 _ (by first | omega | (dsimp only; omega))) (kp_7336 3 rfl) (kp_7336 44 rfl) (kp_7336 45 rfl) (kp_7336 47 rfl) (kp_7336 48 rfl) (by omega) (by omega)
                            exact (hp _ _ _ hR_7334 hf_7337 (Or.inr rfl) (by first | omega | (intro h; omega) | exact Or.inl rfl | exact Or.inr rfl) (by first | omega | (intro h; omega) | exact Or.inl rfl | exact Or.inr rfl) (by first | omega | (intro h; omega) | exact Or.inl rfl | exact Or.inr rfl) (by first | omega | (intro h; omega) | exact Or.inl rfl | exact Or.inr rfl) (by first | omega | (intro h; omega) | exact Or.inl rfl | exact Or.inr rfl) (by first | (intro h; exfalso; omega) | exact fun _ => k_7349 | exact fun _ => (False.elim (by omega))) k_7348 u_7330 u_7331)
                          · have d_7350 := iEq c_7273
                            have i_7351 := u_7271 (by omega)
                            exact (hp _ _ _ hR_7249 hf_7252 (Or.inr rfl) (by first | omega | (intro h; omega) | exact Or.inl rfl | exact Or.inr rfl) (by first | omega | (intro h; omega) | exact Or.inl rfl | exact Or.inr rfl) (by first | omega | (intro h; omega) | exact Or.inl rfl | exact Or.inr rfl) (by first | omega | (intro h; omega) | exact Or.inl rfl | exact Or.inr rfl) (by first | omega | (intro h; omega) | exact Or.inl rfl | exact Or.inr rfl) (by first | (intro h; exfalso; omega) | exact fun _ => k_7264 | exact fun _ => (False.elim (by omega))) k_7265 k_7266 k_7267)
                    · have d_7352 := iEq c_7060
                      have i_7353 := u_7058 (by omega)
                      exact (hp _ _ _ hR_5210 hf_5213 (Or.inr rfl) (by first | omega | (intro h; omega) | exact Or.inl rfl | exact Or.inr rfl) (by first | omega | (intro h; omega) | exact Or.inl rfl | exact Or.inr rfl) (by first | omega | (intro h; omega) | exact Or.inl rfl | exact Or.inr rfl) (by first | omega | (intro h; omega) | exact Or.inl rfl | exact Or.inr rfl) (by first | omega | (intro h; omega) | exact Or.inl rfl | exact Or.inr rfl) (by first | (intro h; exfalso; omega) | exact fun _ => k_5224 | exact fun _ => (False.elim (by omega))) k_5225 k_5226 k_5227)
                  · have d_7354 := iEq c_7053
                    unfold fModel_unit_140
                    refine y_Model_wrong hok hw ra hz14 hz15 hR_5210 (fun I_7358 L_7359 hR_7360 fr_7361 kp_7362 u_7356 u_7357 => ⟨I_7358, L_7359, rfl, rfl, ?_⟩)
                    have hf_7363 : Fm (fun c => c = o ∨ (o + 30 ≤ c ∧ c < o + 34)) I0 I_7358 := hf_5213.call fr_7361 (fun c hc => by first | exact hc | (dsimp only at hc ⊢; omega) | omega)
                    have t_7364 : (I_7358 o 3).toInt = (I_5208 o 3).toInt := by rw [kp_7362 3 rfl]
                    have g_7365 : (0 : Int) ≤ (I_7358 o 4).toInt ∧ (I_7358 o 4).toInt ≤ 5 := hR_7360.at0 ra 4 (by decide)
                    have t_7366 : (I_7358 o 6).toInt = (I_5208 o 6).toInt := by rw [kp_7362 6 rfl]
                    have t_7367 : (I_7358 o 7).toInt = (I_5208 o 7).toInt := by rw [kp_7362 7 rfl]
                    have t_7368 : (I_7358 o 8).toInt = (I_5208 o 8).toInt := by rw [kp_7362 8 rfl]
                    have t_7369 : (I_7358 o 9).toInt = (I_5208 o 9).toInt := by rw [kp_7362 9 rfl]
                    have t_7370 : (I_7358 o 44).toInt = (I_5208 o 44).toInt := by rw [kp_7362 44 rfl]
                    have t_7371 : (I_7358 o 45).toInt = (I_5208 o 45).toInt := by rw [kp_7362 45 rfl]
                    have t_7372 : (I_7358 o 47).toInt = (I_5208 o 47).toInt := by rw [kp_7362 47 rfl]
                    have t_7373 : (I_7358 o 48).toInt = (I_5208 o 48).toInt := by rw [kp_7362 48 rfl]
                    have t_7374 : (I_7358 o 46).toInt = (I_5208 o 46).toInt := by rw [kp_7362 46 rfl]
                    have k_7375 : EX 0 0 0 f0 1 I_7358 o := k_5224.fr (fr_7361 _ (by first | omega | (dsimp only; omega))) (fr_7361 _ (by first | omega | (dsimp only; omega))) (fr_7361 _ (by first | omega | (dsimp only; omega))) (fr_7361 _ (by first | omega | (dsimp only; omega))) (fr_7361 _ (by first | omega | (dsimp only; omega))) (kp_7362 3 rfl) (kp_7362 6 rfl) (kp_7362 44 rfl) (kp_7362 45 rfl) (kp_7362 47 rfl) (kp_7362 48 rfl)
                    have k_7376 : MTd I_7358 o := k_5225.fr (fr_7361 _ (by first | omega | (dsimp only; omega))) (fr_7361 _ (by first | omega | (dsimp only; omega))) (fr_7361 _ (by first | omega | (dsimp only; omega)))
                    have k_7377 : MPo I_7358 o := k_5226.fr (kp_7362 8 rfl) (kp_7362 9 rfl)
                    have k_7378 : MTk I_7358 o := k_5227.fr (kp_7362 6 rfl) (kp_7362 7 rfl) (kp_7362 8 rfl)
                    refine y_Model_isGood hok hw ra hR_7360 (fun r_7379 u_7380 u_7381 u_7382 => ⟨r_7379, I_7358, L_7359, rfl, rfl, ?_⟩)
                    have b_7383 : 0 ≤ r_7379.toInt ∧ r_7379.toInt ≤ 1 := u_7380.rg
                    refine ⟨fun c_7384 => ?_, fun c_7384 => ?_⟩
                    · have d_7385 := iNe c_7384
                      have i_7386 := u_7381 (by omega)
                      have g_7387 : (0 : Int) ≤ (I_7358 o 46).toInt ∧ (I_7358 o 46).toInt ≤ 100 := hR_7360.at0 ra 46 (by decide)
                      have a_7388 : ((I_7358 o 46) + 1).toInt = (I_7358 o 46).toInt + (1 : Int32).toInt := tAdd (by omega) (by omega)
                      refine fun I_7389 e_7390 => ?_
                      have hR_7391 : RI R I_7389 := hR_7360.up0 (k := 46) ra (by decide) (Or.inr hz56) e_7390 (show (0 : Int) ≤ ((I_7358 o 46) + 1).toInt by omega) (show ((I_7358 o 46) + 1).toInt ≤ (100 : Int) by omega)
                      have hf_7392 : Fm (fun c => c = o ∨ (o + 30 ≤ c ∧ c < o + 34)) I0 I_7389 := hf_7363.set (by first | rfl | omega | (dsimp only; omega)) e_7390
                      have t_7393 : (I_7389 o 3).toInt = (I_7358 o 3).toInt := by rw [← e_7390, q_u_k (by decide)]
                      have t_7394 : (I_7389 o 4).toInt = (I_7358 o 4).toInt := by rw [← e_7390, q_u_k (by decide)]
                      have t_7395 : (I_7389 o 6).toInt = (I_7358 o 6).toInt := by rw [← e_7390, q_u_k (by decide)]
                      have t_7396 : (I_7389 o 7).toInt = (I_7358 o 7).toInt := by rw [← e_7390, q_u_k (by decide)]
                      have t_7397 : (I_7389 o 8).toInt = (I_7358 o 8).toInt := by rw [← e_7390, q_u_k (by decide)]
                      have t_7398 : (I_7389 o 9).toInt = (I_7358 o 9).toInt := by rw [← e_7390, q_u_k (by decide)]
                      have t_7399 : (I_7389 o 44).toInt = (I_7358 o 44).toInt := by rw [← e_7390, q_u_k (by decide)]
                      have t_7400 : (I_7389 o 45).toInt = (I_7358 o 45).toInt := by rw [← e_7390, q_u_k (by decide)]
                      have t_7401 : (I_7389 o 47).toInt = (I_7358 o 47).toInt := by rw [← e_7390, q_u_k (by decide)]
                      have t_7402 : (I_7389 o 48).toInt = (I_7358 o 48).toInt := by rw [← e_7390, q_u_k (by decide)]
                      have t_7403 : (I_7389 o 46).toInt = ((I_7358 o 46) + 1).toInt := by rw [← e_7390, q_u_at]
                      have k_7404 : EX 0 0 0 f0 1 I_7389 o := k_7375.fr (by rw [← e_7390]; exact q_u_ne (by omega)) (by rw [← e_7390]; exact q_u_ne (by omega)) (by rw [← e_7390]; exact q_u_ne (by omega)) (by rw [← e_7390]; exact q_u_ne (by omega)) (by rw [← e_7390]; exact q_u_ne (by omega)) (by rw [← e_7390, q_u_k (by decide)]) (by rw [← e_7390, q_u_k (by decide)]) (by rw [← e_7390, q_u_k (by decide)]) (by rw [← e_7390, q_u_k (by decide)]) (by rw [← e_7390, q_u_k (by decide)]) (by rw [← e_7390, q_u_k (by decide)])
                      have k_7405 : MTd I_7389 o := k_7376.fr (by rw [← e_7390]; exact q_u_ne (by omega)) (by rw [← e_7390]; exact q_u_ne (by omega)) (by rw [← e_7390]; exact q_u_ne (by omega))
                      have k_7406 : MPo I_7389 o := k_7377.fr (by rw [← e_7390, q_u_k (by decide)]) (by rw [← e_7390, q_u_k (by decide)])
                      have k_7407 : MTk I_7389 o := k_7378.fr (by rw [← e_7390, q_u_k (by decide)]) (by rw [← e_7390, q_u_k (by decide)]) (by rw [← e_7390, q_u_k (by decide)])
                      refine y_Model_is hok hw ra hR_7391 (fun r_7408 u_7409 u_7410 u_7411 => ⟨r_7408, I_7389, L_7359, rfl, rfl, ?_⟩)
                      have b_7412 : 0 ≤ r_7408.toInt ∧ r_7408.toInt ≤ 1 := u_7409.rg
                      refine ⟨fun c_7413 => ?_, fun c_7413 => ?_⟩
                      · have d_7414 := iEq c_7413
                        have cd := k_7404.cod
                        have tk := k_7407.2 (by omega)
                        refine ⟨fun c_7415 => ?_, fun c_7415 => ?_⟩
                        · have d_7416 := iNe c_7415
                          have i_7417 := u_5205 (by omega)
                          have i_7418 := u_5206 (by omega)
                          exfalso; omega
                        · have d_7419 := iEq c_7415
                          unfold fModel_unit_228
                          have l_7420 : (78 : Int32).toInt = 78 := rfl
                          refine ⟨fun c_7421 => ?_, fun c_7421 => ?_⟩
                          · have d_7422 := iNe c_7421
                            have i_7423 := u_5205 (by omega)
                            have i_7424 := u_5206 (by omega)
                            exfalso; omega
                          · have d_7425 := iEq c_7421
                            refine y_Model_step hok hw ra hz55 (by first | omega | (intro h; omega) | exact Or.inl rfl | exact Or.inr rfl) (by first | omega | (intro h; omega) | exact Or.inl rfl | exact Or.inr rfl) hR_7391 (fun I_7429 L_7430 hR_7431 fr_7432 kp_7433 u_7427 u_7428 => ⟨I_7429, L_7430, rfl, rfl, ?_⟩)
                            have hf_7434 : Fm (fun c => c = o ∨ (o + 30 ≤ c ∧ c < o + 34)) I0 I_7429 := hf_7392.call fr_7432 (fun c hc => by first | exact hc | (dsimp only at hc ⊢; omega) | omega)
                            have t_7435 : (I_7429 o 3).toInt = (I_7389 o 3).toInt := by rw [kp_7433 3 rfl]
                            have t_7436 : (I_7429 o 4).toInt = (I_7389 o 4).toInt := by rw [kp_7433 4 rfl]
                            have t_7437 : (I_7429 o 6).toInt = (I_7389 o 6).toInt := by rw [kp_7433 6 rfl]
                            have t_7438 : (I_7429 o 7).toInt = (I_7389 o 7).toInt := by rw [kp_7433 7 rfl]
                            have t_7439 : (I_7429 o 8).toInt = (I_7389 o 8).toInt := by rw [kp_7433 8 rfl]
                            have t_7440 : (I_7429 o 9).toInt = (I_7389 o 9).toInt := by rw [kp_7433 9 rfl]
                            have t_7441 : (I_7429 o 44).toInt = (I_7389 o 44).toInt := by rw [kp_7433 44 rfl]
                            have g_7442 : (0 : Int) ≤ (I_7429 o 45).toInt ∧ (I_7429 o 45).toInt ≤ 700 := hR_7431.at0 ra 45 (by decide)
                            have t_7443 : (I_7429 o 47).toInt = (I_7389 o 47).toInt := by rw [kp_7433 47 rfl]
                            have t_7444 : (I_7429 o 48).toInt = (I_7389 o 48).toInt := by rw [kp_7433 48 rfl]
                            have t_7445 : (I_7429 o 46).toInt = (I_7389 o 46).toInt := by rw [kp_7433 46 rfl]
                            have k_7446 : MPo I_7429 o := k_7406.fr (kp_7433 8 rfl) (kp_7433 9 rfl)
                            have k_7447 : MTk I_7429 o := k_7407.fr (kp_7433 6 rfl) (kp_7433 7 rfl) (kp_7433 8 rfl)
                            have tk := k_7447.2 (by omega)
                            have k_7448 : EX 0 0 1 f0 0 I_7429 o := by exact EX.step1 k_7404 (by first | exact u_5205 (by omega) | (unfold isT; decide)) (by omega) (fr_7432 _ (by first | omega | (dsimp only; omega))) (fr_7432 _ (by first | omega | (dsimp only; omega))) u_7427 (fr_7432 _ (by first | omega | (dsimp only; omega))) (fr_7432 _ (by first | omega | (dsimp only; omega))) (kp_7433 3 rfl) (kp_7433 6 rfl) (kp_7433 44 rfl) u_7428 (kp_7433 47 rfl) (kp_7433 48 rfl)
                            have k_7449 : MTd I_7429 o := by exact MTd.step k_7405 (fr_7432 _ (by first | omega | (dsimp only; omega))) (fr_7432 _ (by first | omega | (dsimp only; omega))) u_7427 (by omega)
                            refine y_Model_next hok hw ra hz16 hz17 hz18 hz19 (by first | omega | (intro h; omega) | exact Or.inl rfl | exact Or.inr rfl) hR_7431 (fun I_7459 L_7460 hR_7461 fr_7462 kp_7463 u_7451 u_7452 u_7453 u_7454 u_7455 u_7456 u_7457 u_7458 => ⟨I_7459, L_7460, rfl, rfl, ?_⟩)
                            have hf_7464 : Fm (fun c => c = o ∨ (o + 30 ≤ c ∧ c < o + 34)) I0 I_7459 := hf_7434.call fr_7462 (fun c hc => by first | exact hc | (dsimp only at hc ⊢; omega) | omega)
                            have t_7465 : (I_7459 o 3).toInt = (I_7429 o 3).toInt := by rw [kp_7463 3 rfl]
                            have t_7466 : (I_7459 o 4).toInt = (I_7429 o 4).toInt := by rw [kp_7463 4 rfl]
                            have g_7467 : (0 : Int) ≤ (I_7459 o 6).toInt ∧ (I_7459 o 6).toInt ≤ 1600 := hR_7461.at0 ra 6 (by decide)
                            have g_7468 : (0 : Int) ≤ (I_7459 o 7).toInt ∧ (I_7459 o 7).toInt ≤ 1601 := hR_7461.at0 ra 7 (by decide)
                            have g_7469 : (0 : Int) ≤ (I_7459 o 8).toInt ∧ (I_7459 o 8).toInt ≤ 6 := hR_7461.at0 ra 8 (by decide)
                            have t_7470 : (I_7459 o 44).toInt = (I_7429 o 44).toInt := by rw [kp_7463 44 rfl]
                            have t_7471 : (I_7459 o 45).toInt = (I_7429 o 45).toInt := by rw [kp_7463 45 rfl]
                            have t_7472 : (I_7459 o 47).toInt = (I_7429 o 47).toInt := by rw [kp_7463 47 rfl]
                            have t_7473 : (I_7459 o 48).toInt = (I_7429 o 48).toInt := by rw [kp_7463 48 rfl]
                            have t_7474 : (I_7459 o 46).toInt = (I_7429 o 46).toInt := by rw [kp_7463 46 rfl]
                            have k_7475 : MTd I_7459 o := k_7449.fr (fr_7462 _ (by first | omega | (dsimp only; omega))) (fr_7462 _ (by first | omega | (dsimp only; omega))) (fr_7462 _ (by first | omega | (dsimp only; omega)))
                            have ms := u_7454 (by omega)
                            have k_7476 : EX 0 0 0 f0 0 I_7459 o := by exact EX.nx k_7448 (fr_7462 _ (by first | omega | (dsimp only; omega))) (fr_7462 _ (by first | omega | (dsimp only; omega))) (fr_7462 _ (by first | omega | (dsimp only; omega))) (fr_7462 _ (by first | omega | (dsimp only; omega))) (fr_7462 _ (by first | omega | (dsimp only; omega))) (kp_7463 3 rfl) (kp_7463 44 rfl) (kp_7463 45 rfl) (kp_7463 47 rfl) (kp_7463 48 rfl) (by omega) (by omega)
                            exact (hp _ _ _ hR_7461 hf_7464 (Or.inl rfl) (by first | omega | (intro h; omega) | exact Or.inl rfl | exact Or.inr rfl) (by first | omega | (intro h; omega) | exact Or.inl rfl | exact Or.inr rfl) (by first | omega | (intro h; omega) | exact Or.inl rfl | exact Or.inr rfl) (by first | omega | (intro h; omega) | exact Or.inl rfl | exact Or.inr rfl) (by first | omega | (intro h; omega) | exact Or.inl rfl | exact Or.inr rfl) (by first | (intro h; exfalso; omega) | exact fun _ => (False.elim (by omega)) | exact fun _ => k_7476) k_7475 u_7457 u_7458)
                      · have d_7477 := iNe c_7413
                        have i_7478 := u_7410 (by omega)
                        have i_7479 := u_7411 (by omega)
                        have g_7480 : (0 : Int) ≤ (I_7389 o 47).toInt ∧ (I_7389 o 47).toInt ≤ 7 := hR_7391.at0 ra 47 (by decide)
                        refine ⟨fun c_7481 => ?_, fun c_7481 => ?_⟩
                        · have d_7482 := iNe c_7481
                          refine y_Model_isGood hok hw ra hR_7391 (fun r_7483 u_7484 u_7485 u_7486 => ⟨r_7483, I_7389, L_7359, rfl, rfl, ?_⟩)
                          have b_7487 : 0 ≤ r_7483.toInt ∧ r_7483.toInt ≤ 1 := u_7484.rg
                          refine ⟨fun c_7488 => ?_, fun c_7488 => ?_⟩
                          · have d_7489 := iNe c_7488
                            have i_7490 := u_7485 (by omega)
                            refine y_Model_pile hok hw ra hz58 (by first | omega | (intro h; omega) | exact Or.inl rfl | exact Or.inr rfl) (by first | omega | (intro h; omega) | exact Or.inl rfl | exact Or.inr rfl) hR_7391 (fun I_7495 L_7496 hR_7497 fr_7498 kp_7499 u_7492 u_7493 u_7494 => ⟨I_7495, L_7496, rfl, rfl, ?_⟩)
                            have hf_7500 : Fm (fun c => c = o ∨ (o + 30 ≤ c ∧ c < o + 34)) I0 I_7495 := hf_7392.call fr_7498 (fun c hc => by first | exact hc | (dsimp only at hc ⊢; omega) | omega)
                            have t_7501 : (I_7495 o 3).toInt = (I_7389 o 3).toInt := by rw [kp_7499 3 rfl]
                            have t_7502 : (I_7495 o 4).toInt = (I_7389 o 4).toInt := by rw [kp_7499 4 rfl]
                            have t_7503 : (I_7495 o 6).toInt = (I_7389 o 6).toInt := by rw [kp_7499 6 rfl]
                            have t_7504 : (I_7495 o 7).toInt = (I_7389 o 7).toInt := by rw [kp_7499 7 rfl]
                            have t_7505 : (I_7495 o 8).toInt = (I_7389 o 8).toInt := by rw [kp_7499 8 rfl]
                            have t_7506 : (I_7495 o 9).toInt = (I_7389 o 9).toInt := by rw [kp_7499 9 rfl]
                            have t_7507 : (I_7495 o 44).toInt = (I_7389 o 44).toInt := by rw [kp_7499 44 rfl]
                            have t_7508 : (I_7495 o 45).toInt = (I_7389 o 45).toInt := by rw [kp_7499 45 rfl]
                            have t_7509 : (I_7495 o 47).toInt = (I_7389 o 47).toInt := by rw [kp_7499 47 rfl]
                            have g_7510 : (0 : Int) ≤ (I_7495 o 48).toInt ∧ (I_7495 o 48).toInt ≤ 80 := hR_7497.at0 ra 48 (by decide)
                            have t_7511 : (I_7495 o 46).toInt = (I_7389 o 46).toInt := by rw [kp_7499 46 rfl]
                            have k_7512 : MTd I_7495 o := k_7405.fr (fr_7498 _ (by first | omega | (dsimp only; omega))) (fr_7498 _ (by first | omega | (dsimp only; omega))) (fr_7498 _ (by first | omega | (dsimp only; omega)))
                            have k_7513 : MPo I_7495 o := k_7406.fr (kp_7499 8 rfl) (kp_7499 9 rfl)
                            have k_7514 : MTk I_7495 o := k_7407.fr (kp_7499 6 rfl) (kp_7499 7 rfl) (kp_7499 8 rfl)
                            have k_7515 : EX 0 1 1 f0 1 I_7495 o := by have z := EX.push k_7404 (v := 7) (s := 0) (dB := 1) (dO := 0) (wt' := 1) (by decide) (by decide) (by decide) (by omega) ⟨by decide, by decide⟩ ⟨fun h => absurd h (by decide), fun h => absurd h (by decide)⟩ (Or.inl rfl) (fr_7498 _ (by first | omega | (dsimp only; omega))) (fr_7498 _ (by first | omega | (dsimp only; omega))) (fr_7498 _ (by first | omega | (dsimp only; omega))) u_7492 u_7493 (kp_7499 3 rfl) (kp_7499 6 rfl) (kp_7499 44 rfl) (kp_7499 45 rfl) (kp_7499 47 rfl) u_7494; exact EX.chg (b' := 1) z rfl rfl rfl rfl rfl rfl rfl rfl rfl rfl (by omega) z.pl
                            have g_7516 : (0 : Int) ≤ (I_7495 o 47).toInt ∧ (I_7495 o 47).toInt ≤ 7 := hR_7497.at0 ra 47 (by decide)
                            have a_7517 : ((I_7495 o 47) + 1).toInt = (I_7495 o 47).toInt + (1 : Int32).toInt := tAdd (by omega) (by omega)
                            refine fun I_7518 e_7519 => ?_
                            have hR_7520 : RI R I_7518 := hR_7497.up0 (k := 47) ra (by decide) (Or.inr hz57) e_7519 (show (0 : Int) ≤ ((I_7495 o 47) + 1).toInt by omega) (show ((I_7495 o 47) + 1).toInt ≤ (7 : Int) by omega)
                            have hf_7521 : Fm (fun c => c = o ∨ (o + 30 ≤ c ∧ c < o + 34)) I0 I_7518 := hf_7500.set (by first | rfl | omega | (dsimp only; omega)) e_7519
                            have t_7522 : (I_7518 o 3).toInt = (I_7495 o 3).toInt := by rw [← e_7519, q_u_k (by decide)]
                            have t_7523 : (I_7518 o 4).toInt = (I_7495 o 4).toInt := by rw [← e_7519, q_u_k (by decide)]
                            have t_7524 : (I_7518 o 6).toInt = (I_7495 o 6).toInt := by rw [← e_7519, q_u_k (by decide)]
                            have t_7525 : (I_7518 o 7).toInt = (I_7495 o 7).toInt := by rw [← e_7519, q_u_k (by decide)]
                            have t_7526 : (I_7518 o 8).toInt = (I_7495 o 8).toInt := by rw [← e_7519, q_u_k (by decide)]
                            have t_7527 : (I_7518 o 9).toInt = (I_7495 o 9).toInt := by rw [← e_7519, q_u_k (by decide)]
                            have t_7528 : (I_7518 o 44).toInt = (I_7495 o 44).toInt := by rw [← e_7519, q_u_k (by decide)]
                            have t_7529 : (I_7518 o 45).toInt = (I_7495 o 45).toInt := by rw [← e_7519, q_u_k (by decide)]
                            have t_7530 : (I_7518 o 47).toInt = ((I_7495 o 47) + 1).toInt := by rw [← e_7519, q_u_at]
                            have t_7531 : (I_7518 o 48).toInt = (I_7495 o 48).toInt := by rw [← e_7519, q_u_k (by decide)]
                            have t_7532 : (I_7518 o 46).toInt = (I_7495 o 46).toInt := by rw [← e_7519, q_u_k (by decide)]
                            have k_7533 : MTd I_7518 o := k_7512.fr (by rw [← e_7519]; exact q_u_ne (by omega)) (by rw [← e_7519]; exact q_u_ne (by omega)) (by rw [← e_7519]; exact q_u_ne (by omega))
                            have k_7534 : MPo I_7518 o := k_7513.fr (by rw [← e_7519, q_u_k (by decide)]) (by rw [← e_7519, q_u_k (by decide)])
                            have k_7535 : MTk I_7518 o := k_7514.fr (by rw [← e_7519, q_u_k (by decide)]) (by rw [← e_7519, q_u_k (by decide)]) (by rw [← e_7519, q_u_k (by decide)])
                            have tk := k_7535.2 (by omega)
                            have k_7537 : EX 0 0 1 f0 1 I_7518 o := by exact EX.put47 k_7515 e_7519 (by omega)
                            refine y_Model_next hok hw ra hz16 hz17 hz18 hz19 (by first | omega | (intro h; omega) | exact Or.inl rfl | exact Or.inr rfl) hR_7520 (fun I_7547 L_7548 hR_7549 fr_7550 kp_7551 u_7539 u_7540 u_7541 u_7542 u_7543 u_7544 u_7545 u_7546 => ⟨I_7547, L_7548, rfl, rfl, ?_⟩)
                            have hf_7552 : Fm (fun c => c = o ∨ (o + 30 ≤ c ∧ c < o + 34)) I0 I_7547 := hf_7521.call fr_7550 (fun c hc => by first | exact hc | (dsimp only at hc ⊢; omega) | omega)
                            have t_7553 : (I_7547 o 3).toInt = (I_7518 o 3).toInt := by rw [kp_7551 3 rfl]
                            have t_7554 : (I_7547 o 4).toInt = (I_7518 o 4).toInt := by rw [kp_7551 4 rfl]
                            have g_7555 : (0 : Int) ≤ (I_7547 o 6).toInt ∧ (I_7547 o 6).toInt ≤ 1600 := hR_7549.at0 ra 6 (by decide)
                            have g_7556 : (0 : Int) ≤ (I_7547 o 7).toInt ∧ (I_7547 o 7).toInt ≤ 1601 := hR_7549.at0 ra 7 (by decide)
                            have g_7557 : (0 : Int) ≤ (I_7547 o 8).toInt ∧ (I_7547 o 8).toInt ≤ 6 := hR_7549.at0 ra 8 (by decide)
                            have t_7558 : (I_7547 o 44).toInt = (I_7518 o 44).toInt := by rw [kp_7551 44 rfl]
                            have t_7559 : (I_7547 o 45).toInt = (I_7518 o 45).toInt := by rw [kp_7551 45 rfl]
                            have t_7560 : (I_7547 o 47).toInt = (I_7518 o 47).toInt := by rw [kp_7551 47 rfl]
                            have t_7561 : (I_7547 o 48).toInt = (I_7518 o 48).toInt := by rw [kp_7551 48 rfl]
                            have t_7562 : (I_7547 o 46).toInt = (I_7518 o 46).toInt := by rw [kp_7551 46 rfl]
                            have k_7563 : MTd I_7547 o := k_7533.fr (fr_7550 _ (by first | omega | (dsimp only; omega))) (fr_7550 _ (by first | omega | (dsimp only; omega))) (fr_7550 _ (by first | omega | (dsimp only; omega)))
                            have ms := u_7542 (by omega)
                            have k_7564 : EX 0 0 0 f0 1 I_7547 o := by exact EX.nx k_7537 (fr_7550 _ (by first | omega | (dsimp only; omega))) (fr_7550 _ (by first | omega | (dsimp only; omega))) (fr_7550 _ (by first | omega | (dsimp only; omega))) (fr_7550 _ (by first | omega | (dsimp only; omega))) (fr_7550 _ (by first | omega | (dsimp only; omega))) (kp_7551 3 rfl) (kp_7551 44 rfl) (kp_7551 45 rfl) (kp_7551 47 rfl) (kp_7551 48 rfl) (by omega) (by omega)
                            exact (hp _ _ _ hR_7549 hf_7552 (Or.inr rfl) (by first | omega | (intro h; omega) | exact Or.inl rfl | exact Or.inr rfl) (by first | omega | (intro h; omega) | exact Or.inl rfl | exact Or.inr rfl) (by first | omega | (intro h; omega) | exact Or.inl rfl | exact Or.inr rfl) (by first | omega | (intro h; omega) | exact Or.inl rfl | exact Or.inr rfl) (by first | omega | (intro h; omega) | exact Or.inl rfl | exact Or.inr rfl) (by first | (intro h; exfalso; omega) | exact fun _ => k_7564 | exact fun _ => (False.elim (by omega))) k_7563 u_7545 u_7546)
                          · have d_7565 := iEq c_7488
                            have i_7566 := u_7486 (by omega)
                            exact (hp _ _ _ hR_7391 hf_7392 (Or.inr rfl) (by first | omega | (intro h; omega) | exact Or.inl rfl | exact Or.inr rfl) (by first | omega | (intro h; omega) | exact Or.inl rfl | exact Or.inr rfl) (by first | omega | (intro h; omega) | exact Or.inl rfl | exact Or.inr rfl) (by first | omega | (intro h; omega) | exact Or.inl rfl | exact Or.inr rfl) (by first | omega | (intro h; omega) | exact Or.inl rfl | exact Or.inr rfl) (by first | (intro h; exfalso; omega) | exact fun _ => k_7404 | exact fun _ => (False.elim (by omega))) k_7405 k_7406 k_7407)
                        · have d_7567 := iEq c_7481
                          refine y_Model_wrong hok hw ra hz14 hz15 hR_7391 (fun I_7571 L_7572 hR_7573 fr_7574 kp_7575 u_7569 u_7570 => ⟨I_7571, L_7572, rfl, rfl, ?_⟩)
                          have hf_7576 : Fm (fun c => c = o ∨ (o + 30 ≤ c ∧ c < o + 34)) I0 I_7571 := hf_7392.call fr_7574 (fun c hc => by first | exact hc | (dsimp only at hc ⊢; omega) | omega)
                          have t_7577 : (I_7571 o 3).toInt = (I_7389 o 3).toInt := by rw [kp_7575 3 rfl]
                          have g_7578 : (0 : Int) ≤ (I_7571 o 4).toInt ∧ (I_7571 o 4).toInt ≤ 5 := hR_7573.at0 ra 4 (by decide)
                          have t_7579 : (I_7571 o 6).toInt = (I_7389 o 6).toInt := by rw [kp_7575 6 rfl]
                          have t_7580 : (I_7571 o 7).toInt = (I_7389 o 7).toInt := by rw [kp_7575 7 rfl]
                          have t_7581 : (I_7571 o 8).toInt = (I_7389 o 8).toInt := by rw [kp_7575 8 rfl]
                          have t_7582 : (I_7571 o 9).toInt = (I_7389 o 9).toInt := by rw [kp_7575 9 rfl]
                          have t_7583 : (I_7571 o 44).toInt = (I_7389 o 44).toInt := by rw [kp_7575 44 rfl]
                          have t_7584 : (I_7571 o 45).toInt = (I_7389 o 45).toInt := by rw [kp_7575 45 rfl]
                          have t_7585 : (I_7571 o 47).toInt = (I_7389 o 47).toInt := by rw [kp_7575 47 rfl]
                          have t_7586 : (I_7571 o 48).toInt = (I_7389 o 48).toInt := by rw [kp_7575 48 rfl]
                          have t_7587 : (I_7571 o 46).toInt = (I_7389 o 46).toInt := by rw [kp_7575 46 rfl]
                          have k_7588 : EX 0 0 0 f0 1 I_7571 o := k_7404.fr (fr_7574 _ (by first | omega | (dsimp only; omega))) (fr_7574 _ (by first | omega | (dsimp only; omega))) (fr_7574 _ (by first | omega | (dsimp only; omega))) (fr_7574 _ (by first | omega | (dsimp only; omega))) (fr_7574 _ (by first | omega | (dsimp only; omega))) (kp_7575 3 rfl) (kp_7575 6 rfl) (kp_7575 44 rfl) (kp_7575 45 rfl) (kp_7575 47 rfl) (kp_7575 48 rfl)
                          have k_7589 : MTd I_7571 o := k_7405.fr (fr_7574 _ (by first | omega | (dsimp only; omega))) (fr_7574 _ (by first | omega | (dsimp only; omega))) (fr_7574 _ (by first | omega | (dsimp only; omega)))
                          have k_7590 : MPo I_7571 o := k_7406.fr (kp_7575 8 rfl) (kp_7575 9 rfl)
                          have k_7591 : MTk I_7571 o := k_7407.fr (kp_7575 6 rfl) (kp_7575 7 rfl) (kp_7575 8 rfl)
                          refine y_Model_isGood hok hw ra hR_7573 (fun r_7592 u_7593 u_7594 u_7595 => ⟨r_7592, I_7571, L_7572, rfl, rfl, ?_⟩)
                          have b_7596 : 0 ≤ r_7592.toInt ∧ r_7592.toInt ≤ 1 := u_7593.rg
                          refine ⟨fun c_7597 => ?_, fun c_7597 => ?_⟩
                          · have d_7598 := iNe c_7597
                            have i_7599 := u_7594 (by omega)
                            refine y_Model_pile hok hw ra hz58 (by first | omega | (intro h; omega) | exact Or.inl rfl | exact Or.inr rfl) (by first | omega | (intro h; omega) | exact Or.inl rfl | exact Or.inr rfl) hR_7573 (fun I_7604 L_7605 hR_7606 fr_7607 kp_7608 u_7601 u_7602 u_7603 => ⟨I_7604, L_7605, rfl, rfl, ?_⟩)
                            have hf_7609 : Fm (fun c => c = o ∨ (o + 30 ≤ c ∧ c < o + 34)) I0 I_7604 := hf_7576.call fr_7607 (fun c hc => by first | exact hc | (dsimp only at hc ⊢; omega) | omega)
                            have t_7610 : (I_7604 o 3).toInt = (I_7571 o 3).toInt := by rw [kp_7608 3 rfl]
                            have t_7611 : (I_7604 o 4).toInt = (I_7571 o 4).toInt := by rw [kp_7608 4 rfl]
                            have t_7612 : (I_7604 o 6).toInt = (I_7571 o 6).toInt := by rw [kp_7608 6 rfl]
                            have t_7613 : (I_7604 o 7).toInt = (I_7571 o 7).toInt := by rw [kp_7608 7 rfl]
                            have t_7614 : (I_7604 o 8).toInt = (I_7571 o 8).toInt := by rw [kp_7608 8 rfl]
                            have t_7615 : (I_7604 o 9).toInt = (I_7571 o 9).toInt := by rw [kp_7608 9 rfl]
                            have t_7616 : (I_7604 o 44).toInt = (I_7571 o 44).toInt := by rw [kp_7608 44 rfl]
                            have t_7617 : (I_7604 o 45).toInt = (I_7571 o 45).toInt := by rw [kp_7608 45 rfl]
                            have t_7618 : (I_7604 o 47).toInt = (I_7571 o 47).toInt := by rw [kp_7608 47 rfl]
                            have g_7619 : (0 : Int) ≤ (I_7604 o 48).toInt ∧ (I_7604 o 48).toInt ≤ 80 := hR_7606.at0 ra 48 (by decide)
                            have t_7620 : (I_7604 o 46).toInt = (I_7571 o 46).toInt := by rw [kp_7608 46 rfl]
                            have k_7621 : MTd I_7604 o := k_7589.fr (fr_7607 _ (by first | omega | (dsimp only; omega))) (fr_7607 _ (by first | omega | (dsimp only; omega))) (fr_7607 _ (by first | omega | (dsimp only; omega)))
                            have k_7622 : MPo I_7604 o := k_7590.fr (kp_7608 8 rfl) (kp_7608 9 rfl)
                            have k_7623 : MTk I_7604 o := k_7591.fr (kp_7608 6 rfl) (kp_7608 7 rfl) (kp_7608 8 rfl)
                            have k_7624 : EX 0 1 1 f0 1 I_7604 o := by have z := EX.push k_7588 (v := 7) (s := 0) (dB := 1) (dO := 0) (wt' := 1) (by decide) (by decide) (by decide) (by omega) ⟨by decide, by decide⟩ ⟨fun h => absurd h (by decide), fun h => absurd h (by decide)⟩ (Or.inl rfl) (fr_7607 _ (by first | omega | (dsimp only; omega))) (fr_7607 _ (by first | omega | (dsimp only; omega))) (fr_7607 _ (by first | omega | (dsimp only; omega))) u_7601 u_7602 (kp_7608 3 rfl) (kp_7608 6 rfl) (kp_7608 44 rfl) (kp_7608 45 rfl) (kp_7608 47 rfl) u_7603; exact EX.chg (b' := 1) z rfl rfl rfl rfl rfl rfl rfl rfl rfl rfl (by omega) z.pl
                            have g_7625 : (0 : Int) ≤ (I_7604 o 47).toInt ∧ (I_7604 o 47).toInt ≤ 7 := hR_7606.at0 ra 47 (by decide)
                            have a_7626 : ((I_7604 o 47) + 1).toInt = (I_7604 o 47).toInt + (1 : Int32).toInt := tAdd (by omega) (by omega)
                            refine fun I_7627 e_7628 => ?_
                            have hR_7629 : RI R I_7627 := hR_7606.up0 (k := 47) ra (by decide) (Or.inr hz57) e_7628 (show (0 : Int) ≤ ((I_7604 o 47) + 1).toInt by omega) (show ((I_7604 o 47) + 1).toInt ≤ (7 : Int) by omega)
                            have hf_7630 : Fm (fun c => c = o ∨ (o + 30 ≤ c ∧ c < o + 34)) I0 I_7627 := hf_7609.set (by first | rfl | omega | (dsimp only; omega)) e_7628
                            have t_7631 : (I_7627 o 3).toInt = (I_7604 o 3).toInt := by rw [← e_7628, q_u_k (by decide)]
                            have t_7632 : (I_7627 o 4).toInt = (I_7604 o 4).toInt := by rw [← e_7628, q_u_k (by decide)]
                            have t_7633 : (I_7627 o 6).toInt = (I_7604 o 6).toInt := by rw [← e_7628, q_u_k (by decide)]
                            have t_7634 : (I_7627 o 7).toInt = (I_7604 o 7).toInt := by rw [← e_7628, q_u_k (by decide)]
                            have t_7635 : (I_7627 o 8).toInt = (I_7604 o 8).toInt := by rw [← e_7628, q_u_k (by decide)]
                            have t_7636 : (I_7627 o 9).toInt = (I_7604 o 9).toInt := by rw [← e_7628, q_u_k (by decide)]
                            have t_7637 : (I_7627 o 44).toInt = (I_7604 o 44).toInt := by rw [← e_7628, q_u_k (by decide)]
                            have t_7638 : (I_7627 o 45).toInt = (I_7604 o 45).toInt := by rw [← e_7628, q_u_k (by decide)]
                            have t_7639 : (I_7627 o 47).toInt = ((I_7604 o 47) + 1).toInt := by rw [← e_7628, q_u_at]
                            have t_7640 : (I_7627 o 48).toInt = (I_7604 o 48).toInt := by rw [← e_7628, q_u_k (by decide)]
                            have t_7641 : (I_7627 o 46).toInt = (I_7604 o 46).toInt := by rw [← e_7628, q_u_k (by decide)]
                            have k_7642 : MTd I_7627 o := k_7621.fr (by rw [← e_7628]; exact q_u_ne (by omega)) (by rw [← e_7628]; exact q_u_ne (by omega)) (by rw [← e_7628]; exact q_u_ne (by omega))
                            have k_7643 : MPo I_7627 o := k_7622.fr (by rw [← e_7628, q_u_k (by decide)]) (by rw [← e_7628, q_u_k (by decide)])
                            have k_7644 : MTk I_7627 o := k_7623.fr (by rw [← e_7628, q_u_k (by decide)]) (by rw [← e_7628, q_u_k (by decide)]) (by rw [← e_7628, q_u_k (by decide)])
                            have tk := k_7644.2 (by omega)
                            have k_7646 : EX 0 0 1 f0 1 I_7627 o := by exact EX.put47 k_7624 e_7628 (by omega)
                            refine y_Model_next hok hw ra hz16 hz17 hz18 hz19 (by first | omega | (intro h; omega) | exact Or.inl rfl | exact Or.inr rfl) hR_7629 (fun I_7656 L_7657 hR_7658 fr_7659 kp_7660 u_7648 u_7649 u_7650 u_7651 u_7652 u_7653 u_7654 u_7655 => ⟨I_7656, L_7657, rfl, rfl, ?_⟩)
                            have hf_7661 : Fm (fun c => c = o ∨ (o + 30 ≤ c ∧ c < o + 34)) I0 I_7656 := hf_7630.call fr_7659 (fun c hc => by first | exact hc | (dsimp only at hc ⊢; omega) | omega)
                            have t_7662 : (I_7656 o 3).toInt = (I_7627 o 3).toInt := by rw [kp_7660 3 rfl]
                            have t_7663 : (I_7656 o 4).toInt = (I_7627 o 4).toInt := by rw [kp_7660 4 rfl]
                            have g_7664 : (0 : Int) ≤ (I_7656 o 6).toInt ∧ (I_7656 o 6).toInt ≤ 1600 := hR_7658.at0 ra 6 (by decide)
                            have g_7665 : (0 : Int) ≤ (I_7656 o 7).toInt ∧ (I_7656 o 7).toInt ≤ 1601 := hR_7658.at0 ra 7 (by decide)
                            have g_7666 : (0 : Int) ≤ (I_7656 o 8).toInt ∧ (I_7656 o 8).toInt ≤ 6 := hR_7658.at0 ra 8 (by decide)
                            have t_7667 : (I_7656 o 44).toInt = (I_7627 o 44).toInt := by rw [kp_7660 44 rfl]
                            have t_7668 : (I_7656 o 45).toInt = (I_7627 o 45).toInt := by rw [kp_7660 45 rfl]
                            have t_7669 : (I_7656 o 47).toInt = (I_7627 o 47).toInt := by rw [kp_7660 47 rfl]
                            have t_7670 : (I_7656 o 48).toInt = (I_7627 o 48).toInt := by rw [kp_7660 48 rfl]
                            have t_7671 : (I_7656 o 46).toInt = (I_7627 o 46).toInt := by rw [kp_7660 46 rfl]
                            have k_7672 : MTd I_7656 o := k_7642.fr (fr_7659 _ (by first | omega | (dsimp only; omega))) (fr_7659 _ (by first | omega | (dsimp only; omega))) (fr_7659 _ (by first | omega | (dsimp only; omega)))
                            have ms := u_7651 (by omega)
                            have k_7673 : EX 0 0 0 f0 1 I_7656 o := by exact EX.nx k_7646 (fr_7659 _ (by first | omega | (dsimp only; omega))) (fr_7659 _ (by first | omega | (dsimp only; omega))) (fr_7659 _ (by first | omega | (dsimp only; omega))) (fr_7659 _ (by first | omega | (dsimp only; omega))) (fr_7659 _ (by first | omega | (dsimp only; omega))) (kp_7660 3 rfl) (kp_7660 44 rfl) (kp_7660 45 rfl) (kp_7660 47 rfl) (kp_7660 48 rfl) (by omega) (by omega)
                            exact (hp _ _ _ hR_7658 hf_7661 (Or.inr rfl) (by first | omega | (intro h; omega) | exact Or.inl rfl | exact Or.inr rfl) (by first | omega | (intro h; omega) | exact Or.inl rfl | exact Or.inr rfl) (by first | omega | (intro h; omega) | exact Or.inl rfl | exact Or.inr rfl) (by first | omega | (intro h; omega) | exact Or.inl rfl | exact Or.inr rfl) (by first | omega | (intro h; omega) | exact Or.inl rfl | exact Or.inr rfl) (by first | (intro h; exfalso; omega) | exact fun _ => k_7673 | exact fun _ => (False.elim (by omega))) k_7672 u_7654 u_7655)
                          · have d_7674 := iEq c_7597
                            have i_7675 := u_7595 (by omega)
                            exact (hp _ _ _ hR_7573 hf_7576 (Or.inr rfl) (by first | omega | (intro h; omega) | exact Or.inl rfl | exact Or.inr rfl) (by first | omega | (intro h; omega) | exact Or.inl rfl | exact Or.inr rfl) (by first | omega | (intro h; omega) | exact Or.inl rfl | exact Or.inr rfl) (by first | omega | (intro h; omega) | exact Or.inl rfl | exact Or.inr rfl) (by first | omega | (intro h; omega) | exact Or.inl rfl | exact Or.inr rfl) (by first | (intro h; exfalso; omega) | exact fun _ => k_7588 | exact fun _ => (False.elim (by omega))) k_7589 k_7590 k_7591)
                    · have d_7676 := iEq c_7384
                      have i_7677 := u_7382 (by omega)
                      exact (hp _ _ _ hR_7360 hf_7363 (Or.inr rfl) (by first | omega | (intro h; omega) | exact Or.inl rfl | exact Or.inr rfl) (by first | omega | (intro h; omega) | exact Or.inl rfl | exact Or.inr rfl) (by first | omega | (intro h; omega) | exact Or.inl rfl | exact Or.inr rfl) (by first | omega | (intro h; omega) | exact Or.inl rfl | exact Or.inr rfl) (by first | omega | (intro h; omega) | exact Or.inl rfl | exact Or.inr rfl) (by first | (intro h; exfalso; omega) | exact fun _ => k_7375 | exact fun _ => (False.elim (by omega))) k_7376 k_7377 k_7378)
          · have d_7678 := iEq c_5233
            have i_7679 := u_5231 (by omega)
            exact (hp _ _ _ hR_5210 hf_5213 (Or.inr rfl) (by first | omega | (intro h; omega) | exact Or.inl rfl | exact Or.inr rfl) (by first | omega | (intro h; omega) | exact Or.inl rfl | exact Or.inr rfl) (by first | omega | (intro h; omega) | exact Or.inl rfl | exact Or.inr rfl) (by first | omega | (intro h; omega) | exact Or.inl rfl | exact Or.inr rfl) (by first | omega | (intro h; omega) | exact Or.inl rfl | exact Or.inr rfl) (by first | (intro h; exfalso; omega) | exact fun _ => k_5224 | exact fun _ => (False.elim (by omega))) k_5225 k_5226 k_5227)
        · have d_7680 := iNe c_5202
          have i_7681 := u_5200 (by omega)
          have g_7682 : (0 : Int) ≤ (I0 o 47).toInt ∧ (I0 o 47).toInt ≤ 7 := hR.at0 ra 47 (by decide)
          refine ⟨fun c_7683 => ?_, fun c_7683 => ?_⟩
          · have d_7684 := iNe c_7683
            refine y_Model_isGood hok hw ra hR (fun r_7685 u_7686 u_7687 u_7688 => ⟨r_7685, I0, L0, rfl, rfl, ?_⟩)
            have b_7689 : 0 ≤ r_7685.toInt ∧ r_7685.toInt ≤ 1 := u_7686.rg
            refine ⟨fun c_7690 => ?_, fun c_7690 => ?_⟩
            · have d_7691 := iNe c_7690
              have i_7692 := u_7687 (by omega)
              have l_7693 : (126 : Int32).toInt = 126 := rfl
              refine y_Model_pile hok hw ra hz58 (by first | omega | (intro h; omega) | exact Or.inl rfl | exact Or.inr rfl) (by first | omega | (intro h; omega) | exact Or.inl rfl | exact Or.inr rfl) hR (fun I_7698 L_7699 hR_7700 fr_7701 kp_7702 u_7695 u_7696 u_7697 => ⟨I_7698, L_7699, rfl, rfl, ?_⟩)
              have hf_7703 : Fm (fun c => c = o ∨ (o + 30 ≤ c ∧ c < o + 34)) I0 I_7698 := hf.call fr_7701 (fun c hc => by first | exact hc | (dsimp only at hc ⊢; omega) | omega)
              have t_7704 : (I_7698 o 3).toInt = (I0 o 3).toInt := by rw [kp_7702 3 rfl]
              have t_7705 : (I_7698 o 4).toInt = (I0 o 4).toInt := by rw [kp_7702 4 rfl]
              have t_7706 : (I_7698 o 6).toInt = (I0 o 6).toInt := by rw [kp_7702 6 rfl]
              have t_7707 : (I_7698 o 7).toInt = (I0 o 7).toInt := by rw [kp_7702 7 rfl]
              have t_7708 : (I_7698 o 8).toInt = (I0 o 8).toInt := by rw [kp_7702 8 rfl]
              have t_7709 : (I_7698 o 9).toInt = (I0 o 9).toInt := by rw [kp_7702 9 rfl]
              have t_7710 : (I_7698 o 44).toInt = (I0 o 44).toInt := by rw [kp_7702 44 rfl]
              have t_7711 : (I_7698 o 45).toInt = (I0 o 45).toInt := by rw [kp_7702 45 rfl]
              have t_7712 : (I_7698 o 47).toInt = (I0 o 47).toInt := by rw [kp_7702 47 rfl]
              have g_7713 : (0 : Int) ≤ (I_7698 o 48).toInt ∧ (I_7698 o 48).toInt ≤ 80 := hR_7700.at0 ra 48 (by decide)
              have k_7714 : MTd I_7698 o := hq3.fr (fr_7701 _ (by first | omega | (dsimp only; omega))) (fr_7701 _ (by first | omega | (dsimp only; omega))) (fr_7701 _ (by first | omega | (dsimp only; omega)))
              have k_7715 : MPo I_7698 o := hq4.fr (kp_7702 8 rfl) (kp_7702 9 rfl)
              have k_7716 : MTk I_7698 o := hq5.fr (kp_7702 6 rfl) (kp_7702 7 rfl) (kp_7702 8 rfl)
              have k_7717 : EX 0 1 1 f0 1 I_7698 o := by exact EX.push hq2 (by decide) (by decide) (by decide) (by omega) ⟨by decide, by decide⟩ ⟨fun _ => rfl, fun h => absurd h (by decide)⟩ (Or.inl rfl) (fr_7701 _ (by first | omega | (dsimp only; omega))) (fr_7701 _ (by first | omega | (dsimp only; omega))) (fr_7701 _ (by first | omega | (dsimp only; omega))) u_7695 u_7696 (kp_7702 3 rfl) (kp_7702 6 rfl) (kp_7702 44 rfl) (kp_7702 45 rfl) (kp_7702 47 rfl) u_7697
              have g_7718 : (0 : Int) ≤ (I_7698 o 47).toInt ∧ (I_7698 o 47).toInt ≤ 7 := hR_7700.at0 ra 47 (by decide)
              have a_7719 : ((I_7698 o 47) + 1).toInt = (I_7698 o 47).toInt + (1 : Int32).toInt := tAdd (by omega) (by omega)
              refine fun I_7720 e_7721 => ?_
              have hR_7722 : RI R I_7720 := hR_7700.up0 (k := 47) ra (by decide) (Or.inr hz57) e_7721 (show (0 : Int) ≤ ((I_7698 o 47) + 1).toInt by omega) (show ((I_7698 o 47) + 1).toInt ≤ (7 : Int) by omega)
              have hf_7723 : Fm (fun c => c = o ∨ (o + 30 ≤ c ∧ c < o + 34)) I0 I_7720 := hf_7703.set (by first | rfl | omega | (dsimp only; omega)) e_7721
              have t_7724 : (I_7720 o 3).toInt = (I_7698 o 3).toInt := by rw [← e_7721, q_u_k (by decide)]
              have t_7725 : (I_7720 o 4).toInt = (I_7698 o 4).toInt := by rw [← e_7721, q_u_k (by decide)]
              have t_7726 : (I_7720 o 6).toInt = (I_7698 o 6).toInt := by rw [← e_7721, q_u_k (by decide)]
              have t_7727 : (I_7720 o 7).toInt = (I_7698 o 7).toInt := by rw [← e_7721, q_u_k (by decide)]
              have t_7728 : (I_7720 o 8).toInt = (I_7698 o 8).toInt := by rw [← e_7721, q_u_k (by decide)]
              have t_7729 : (I_7720 o 9).toInt = (I_7698 o 9).toInt := by rw [← e_7721, q_u_k (by decide)]
              have t_7730 : (I_7720 o 44).toInt = (I_7698 o 44).toInt := by rw [← e_7721, q_u_k (by decide)]
              have t_7731 : (I_7720 o 45).toInt = (I_7698 o 45).toInt := by rw [← e_7721, q_u_k (by decide)]
              have t_7732 : (I_7720 o 47).toInt = ((I_7698 o 47) + 1).toInt := by rw [← e_7721, q_u_at]
              have t_7733 : (I_7720 o 48).toInt = (I_7698 o 48).toInt := by rw [← e_7721, q_u_k (by decide)]
              have k_7734 : MTd I_7720 o := k_7714.fr (by rw [← e_7721]; exact q_u_ne (by omega)) (by rw [← e_7721]; exact q_u_ne (by omega)) (by rw [← e_7721]; exact q_u_ne (by omega))
              have k_7735 : MPo I_7720 o := k_7715.fr (by rw [← e_7721, q_u_k (by decide)]) (by rw [← e_7721, q_u_k (by decide)])
              have k_7736 : MTk I_7720 o := k_7716.fr (by rw [← e_7721, q_u_k (by decide)]) (by rw [← e_7721, q_u_k (by decide)]) (by rw [← e_7721, q_u_k (by decide)])
              have tk := k_7736.2 (by omega)
              have k_7738 : EX 0 0 1 f0 1 I_7720 o := by exact EX.put47 k_7717 e_7721 (by omega)
              refine y_Model_next hok hw ra hz16 hz17 hz18 hz19 (by first | omega | (intro h; omega) | exact Or.inl rfl | exact Or.inr rfl) hR_7722 (fun I_7748 L_7749 hR_7750 fr_7751 kp_7752 u_7740 u_7741 u_7742 u_7743 u_7744 u_7745 u_7746 u_7747 => ⟨I_7748, L_7749, rfl, rfl, ?_⟩)
              have hf_7753 : Fm (fun c => c = o ∨ (o + 30 ≤ c ∧ c < o + 34)) I0 I_7748 := hf_7723.call fr_7751 (fun c hc => by first | exact hc | (dsimp only at hc ⊢; omega) | omega)
              have t_7754 : (I_7748 o 3).toInt = (I_7720 o 3).toInt := by rw [kp_7752 3 rfl]
              have t_7755 : (I_7748 o 4).toInt = (I_7720 o 4).toInt := by rw [kp_7752 4 rfl]
              have g_7756 : (0 : Int) ≤ (I_7748 o 6).toInt ∧ (I_7748 o 6).toInt ≤ 1600 := hR_7750.at0 ra 6 (by decide)
              have g_7757 : (0 : Int) ≤ (I_7748 o 7).toInt ∧ (I_7748 o 7).toInt ≤ 1601 := hR_7750.at0 ra 7 (by decide)
              have g_7758 : (0 : Int) ≤ (I_7748 o 8).toInt ∧ (I_7748 o 8).toInt ≤ 6 := hR_7750.at0 ra 8 (by decide)
              have t_7759 : (I_7748 o 44).toInt = (I_7720 o 44).toInt := by rw [kp_7752 44 rfl]
              have t_7760 : (I_7748 o 45).toInt = (I_7720 o 45).toInt := by rw [kp_7752 45 rfl]
              have t_7761 : (I_7748 o 47).toInt = (I_7720 o 47).toInt := by rw [kp_7752 47 rfl]
              have t_7762 : (I_7748 o 48).toInt = (I_7720 o 48).toInt := by rw [kp_7752 48 rfl]
              have k_7763 : MTd I_7748 o := k_7734.fr (fr_7751 _ (by first | omega | (dsimp only; omega))) (fr_7751 _ (by first | omega | (dsimp only; omega))) (fr_7751 _ (by first | omega | (dsimp only; omega)))
              have ms := u_7743 (by omega)
              have k_7764 : EX 0 0 0 f0 1 I_7748 o := by exact EX.nx k_7738 (fr_7751 _ (by first | omega | (dsimp only; omega))) (fr_7751 _ (by first | omega | (dsimp only; omega))) (fr_7751 _ (by first | omega | (dsimp only; omega))) (fr_7751 _ (by first | omega | (dsimp only; omega))) (fr_7751 _ (by first | omega | (dsimp only; omega))) (kp_7752 3 rfl) (kp_7752 44 rfl) (kp_7752 45 rfl) (kp_7752 47 rfl) (kp_7752 48 rfl) (by omega) (by omega)
              exact (hp _ _ _ hR_7750 hf_7753 (Or.inr rfl) (by first | omega | (intro h; omega) | exact Or.inl rfl | exact Or.inr rfl) (by first | omega | (intro h; omega) | exact Or.inl rfl | exact Or.inr rfl) (by first | omega | (intro h; omega) | exact Or.inl rfl | exact Or.inr rfl) (by first | omega | (intro h; omega) | exact Or.inl rfl | exact Or.inr rfl) (by first | omega | (intro h; omega) | exact Or.inl rfl | exact Or.inr rfl) (by first | (intro h; exfalso; omega) | exact fun _ => k_7764 | exact fun _ => (False.elim (by omega))) k_7763 u_7746 u_7747)
            · have d_7765 := iEq c_7690
              have i_7766 := u_7688 (by omega)
              exact (hp _ _ _ hR hf (Or.inr rfl) (by first | omega | (intro h; omega) | exact Or.inl rfl | exact Or.inr rfl) (by first | omega | (intro h; omega) | exact Or.inl rfl | exact Or.inr rfl) (by first | omega | (intro h; omega) | exact Or.inl rfl | exact Or.inr rfl) (by first | omega | (intro h; omega) | exact Or.inl rfl | exact Or.inr rfl) (by first | omega | (intro h; omega) | exact Or.inl rfl | exact Or.inr rfl) (by first | (intro h; exfalso; omega) | exact fun _ => hq2 | exact fun _ => (False.elim (by omega))) hq3 hq4 hq5)
          · have d_7767 := iEq c_7683
            refine y_Model_wrong hok hw ra hz14 hz15 hR (fun I_7771 L_7772 hR_7773 fr_7774 kp_7775 u_7769 u_7770 => ⟨I_7771, L_7772, rfl, rfl, ?_⟩)
            have hf_7776 : Fm (fun c => c = o ∨ (o + 30 ≤ c ∧ c < o + 34)) I0 I_7771 := hf.call fr_7774 (fun c hc => by first | exact hc | (dsimp only at hc ⊢; omega) | omega)
            have t_7777 : (I_7771 o 3).toInt = (I0 o 3).toInt := by rw [kp_7775 3 rfl]
            have g_7778 : (0 : Int) ≤ (I_7771 o 4).toInt ∧ (I_7771 o 4).toInt ≤ 5 := hR_7773.at0 ra 4 (by decide)
            have t_7779 : (I_7771 o 6).toInt = (I0 o 6).toInt := by rw [kp_7775 6 rfl]
            have t_7780 : (I_7771 o 7).toInt = (I0 o 7).toInt := by rw [kp_7775 7 rfl]
            have t_7781 : (I_7771 o 8).toInt = (I0 o 8).toInt := by rw [kp_7775 8 rfl]
            have t_7782 : (I_7771 o 9).toInt = (I0 o 9).toInt := by rw [kp_7775 9 rfl]
            have t_7783 : (I_7771 o 44).toInt = (I0 o 44).toInt := by rw [kp_7775 44 rfl]
            have t_7784 : (I_7771 o 45).toInt = (I0 o 45).toInt := by rw [kp_7775 45 rfl]
            have t_7785 : (I_7771 o 47).toInt = (I0 o 47).toInt := by rw [kp_7775 47 rfl]
            have t_7786 : (I_7771 o 48).toInt = (I0 o 48).toInt := by rw [kp_7775 48 rfl]
            have k_7787 : EX 0 0 0 f0 1 I_7771 o := hq2.fr (fr_7774 _ (by first | omega | (dsimp only; omega))) (fr_7774 _ (by first | omega | (dsimp only; omega))) (fr_7774 _ (by first | omega | (dsimp only; omega))) (fr_7774 _ (by first | omega | (dsimp only; omega))) (fr_7774 _ (by first | omega | (dsimp only; omega))) (kp_7775 3 rfl) (kp_7775 6 rfl) (kp_7775 44 rfl) (kp_7775 45 rfl) (kp_7775 47 rfl) (kp_7775 48 rfl)
            have k_7788 : MTd I_7771 o := hq3.fr (fr_7774 _ (by first | omega | (dsimp only; omega))) (fr_7774 _ (by first | omega | (dsimp only; omega))) (fr_7774 _ (by first | omega | (dsimp only; omega)))
            have k_7789 : MPo I_7771 o := hq4.fr (kp_7775 8 rfl) (kp_7775 9 rfl)
            have k_7790 : MTk I_7771 o := hq5.fr (kp_7775 6 rfl) (kp_7775 7 rfl) (kp_7775 8 rfl)
            refine y_Model_isGood hok hw ra hR_7773 (fun r_7791 u_7792 u_7793 u_7794 => ⟨r_7791, I_7771, L_7772, rfl, rfl, ?_⟩)
            have b_7795 : 0 ≤ r_7791.toInt ∧ r_7791.toInt ≤ 1 := u_7792.rg
            refine ⟨fun c_7796 => ?_, fun c_7796 => ?_⟩
            · have d_7797 := iNe c_7796
              have i_7798 := u_7793 (by omega)
              have l_7799 : (126 : Int32).toInt = 126 := rfl
              refine y_Model_pile hok hw ra hz58 (by first | omega | (intro h; omega) | exact Or.inl rfl | exact Or.inr rfl) (by first | omega | (intro h; omega) | exact Or.inl rfl | exact Or.inr rfl) hR_7773 (fun I_7804 L_7805 hR_7806 fr_7807 kp_7808 u_7801 u_7802 u_7803 => ⟨I_7804, L_7805, rfl, rfl, ?_⟩)
              have hf_7809 : Fm (fun c => c = o ∨ (o + 30 ≤ c ∧ c < o + 34)) I0 I_7804 := hf_7776.call fr_7807 (fun c hc => by first | exact hc | (dsimp only at hc ⊢; omega) | omega)
              have t_7810 : (I_7804 o 3).toInt = (I_7771 o 3).toInt := by rw [kp_7808 3 rfl]
              have t_7811 : (I_7804 o 4).toInt = (I_7771 o 4).toInt := by rw [kp_7808 4 rfl]
              have t_7812 : (I_7804 o 6).toInt = (I_7771 o 6).toInt := by rw [kp_7808 6 rfl]
              have t_7813 : (I_7804 o 7).toInt = (I_7771 o 7).toInt := by rw [kp_7808 7 rfl]
              have t_7814 : (I_7804 o 8).toInt = (I_7771 o 8).toInt := by rw [kp_7808 8 rfl]
              have t_7815 : (I_7804 o 9).toInt = (I_7771 o 9).toInt := by rw [kp_7808 9 rfl]
              have t_7816 : (I_7804 o 44).toInt = (I_7771 o 44).toInt := by rw [kp_7808 44 rfl]
              have t_7817 : (I_7804 o 45).toInt = (I_7771 o 45).toInt := by rw [kp_7808 45 rfl]
              have t_7818 : (I_7804 o 47).toInt = (I_7771 o 47).toInt := by rw [kp_7808 47 rfl]
              have g_7819 : (0 : Int) ≤ (I_7804 o 48).toInt ∧ (I_7804 o 48).toInt ≤ 80 := hR_7806.at0 ra 48 (by decide)
              have k_7820 : MTd I_7804 o := k_7788.fr (fr_7807 _ (by first | omega | (dsimp only; omega))) (fr_7807 _ (by first | omega | (dsimp only; omega))) (fr_7807 _ (by first | omega | (dsimp only; omega)))
              have k_7821 : MPo I_7804 o := k_7789.fr (kp_7808 8 rfl) (kp_7808 9 rfl)
              have k_7822 : MTk I_7804 o := k_7790.fr (kp_7808 6 rfl) (kp_7808 7 rfl) (kp_7808 8 rfl)
              have k_7823 : EX 0 1 1 f0 1 I_7804 o := by exact EX.push k_7787 (by decide) (by decide) (by decide) (by omega) ⟨by decide, by decide⟩ ⟨fun _ => rfl, fun h => absurd h (by decide)⟩ (Or.inl rfl) (fr_7807 _ (by first | omega | (dsimp only; omega))) (fr_7807 _ (by first | omega | (dsimp only; omega))) (fr_7807 _ (by first | omega | (dsimp only; omega))) u_7801 u_7802 (kp_7808 3 rfl) (kp_7808 6 rfl) (kp_7808 44 rfl) (kp_7808 45 rfl) (kp_7808 47 rfl) u_7803
              have g_7824 : (0 : Int) ≤ (I_7804 o 47).toInt ∧ (I_7804 o 47).toInt ≤ 7 := hR_7806.at0 ra 47 (by decide)
              have a_7825 : ((I_7804 o 47) + 1).toInt = (I_7804 o 47).toInt + (1 : Int32).toInt := tAdd (by omega) (by omega)
              refine fun I_7826 e_7827 => ?_
              have hR_7828 : RI R I_7826 := hR_7806.up0 (k := 47) ra (by decide) (Or.inr hz57) e_7827 (show (0 : Int) ≤ ((I_7804 o 47) + 1).toInt by omega) (show ((I_7804 o 47) + 1).toInt ≤ (7 : Int) by omega)
              have hf_7829 : Fm (fun c => c = o ∨ (o + 30 ≤ c ∧ c < o + 34)) I0 I_7826 := hf_7809.set (by first | rfl | omega | (dsimp only; omega)) e_7827
              have t_7830 : (I_7826 o 3).toInt = (I_7804 o 3).toInt := by rw [← e_7827, q_u_k (by decide)]
              have t_7831 : (I_7826 o 4).toInt = (I_7804 o 4).toInt := by rw [← e_7827, q_u_k (by decide)]
              have t_7832 : (I_7826 o 6).toInt = (I_7804 o 6).toInt := by rw [← e_7827, q_u_k (by decide)]
              have t_7833 : (I_7826 o 7).toInt = (I_7804 o 7).toInt := by rw [← e_7827, q_u_k (by decide)]
              have t_7834 : (I_7826 o 8).toInt = (I_7804 o 8).toInt := by rw [← e_7827, q_u_k (by decide)]
              have t_7835 : (I_7826 o 9).toInt = (I_7804 o 9).toInt := by rw [← e_7827, q_u_k (by decide)]
              have t_7836 : (I_7826 o 44).toInt = (I_7804 o 44).toInt := by rw [← e_7827, q_u_k (by decide)]
              have t_7837 : (I_7826 o 45).toInt = (I_7804 o 45).toInt := by rw [← e_7827, q_u_k (by decide)]
              have t_7838 : (I_7826 o 47).toInt = ((I_7804 o 47) + 1).toInt := by rw [← e_7827, q_u_at]
              have t_7839 : (I_7826 o 48).toInt = (I_7804 o 48).toInt := by rw [← e_7827, q_u_k (by decide)]
              have k_7840 : MTd I_7826 o := k_7820.fr (by rw [← e_7827]; exact q_u_ne (by omega)) (by rw [← e_7827]; exact q_u_ne (by omega)) (by rw [← e_7827]; exact q_u_ne (by omega))
              have k_7841 : MPo I_7826 o := k_7821.fr (by rw [← e_7827, q_u_k (by decide)]) (by rw [← e_7827, q_u_k (by decide)])
              have k_7842 : MTk I_7826 o := k_7822.fr (by rw [← e_7827, q_u_k (by decide)]) (by rw [← e_7827, q_u_k (by decide)]) (by rw [← e_7827, q_u_k (by decide)])
              have tk := k_7842.2 (by omega)
              have k_7844 : EX 0 0 1 f0 1 I_7826 o := by exact EX.put47 k_7823 e_7827 (by omega)
              refine y_Model_next hok hw ra hz16 hz17 hz18 hz19 (by first | omega | (intro h; omega) | exact Or.inl rfl | exact Or.inr rfl) hR_7828 (fun I_7854 L_7855 hR_7856 fr_7857 kp_7858 u_7846 u_7847 u_7848 u_7849 u_7850 u_7851 u_7852 u_7853 => ⟨I_7854, L_7855, rfl, rfl, ?_⟩)
              have hf_7859 : Fm (fun c => c = o ∨ (o + 30 ≤ c ∧ c < o + 34)) I0 I_7854 := hf_7829.call fr_7857 (fun c hc => by first | exact hc | (dsimp only at hc ⊢; omega) | omega)
              have t_7860 : (I_7854 o 3).toInt = (I_7826 o 3).toInt := by rw [kp_7858 3 rfl]
              have t_7861 : (I_7854 o 4).toInt = (I_7826 o 4).toInt := by rw [kp_7858 4 rfl]
              have g_7862 : (0 : Int) ≤ (I_7854 o 6).toInt ∧ (I_7854 o 6).toInt ≤ 1600 := hR_7856.at0 ra 6 (by decide)
              have g_7863 : (0 : Int) ≤ (I_7854 o 7).toInt ∧ (I_7854 o 7).toInt ≤ 1601 := hR_7856.at0 ra 7 (by decide)
              have g_7864 : (0 : Int) ≤ (I_7854 o 8).toInt ∧ (I_7854 o 8).toInt ≤ 6 := hR_7856.at0 ra 8 (by decide)
              have t_7865 : (I_7854 o 44).toInt = (I_7826 o 44).toInt := by rw [kp_7858 44 rfl]
              have t_7866 : (I_7854 o 45).toInt = (I_7826 o 45).toInt := by rw [kp_7858 45 rfl]
              have t_7867 : (I_7854 o 47).toInt = (I_7826 o 47).toInt := by rw [kp_7858 47 rfl]
              have t_7868 : (I_7854 o 48).toInt = (I_7826 o 48).toInt := by rw [kp_7858 48 rfl]
              have k_7869 : MTd I_7854 o := k_7840.fr (fr_7857 _ (by first | omega | (dsimp only; omega))) (fr_7857 _ (by first | omega | (dsimp only; omega))) (fr_7857 _ (by first | omega | (dsimp only; omega)))
              have ms := u_7849 (by omega)
              have k_7870 : EX 0 0 0 f0 1 I_7854 o := by exact EX.nx k_7844 (fr_7857 _ (by first | omega | (dsimp only; omega))) (fr_7857 _ (by first | omega | (dsimp only; omega))) (fr_7857 _ (by first | omega | (dsimp only; omega))) (fr_7857 _ (by first | omega | (dsimp only; omega))) (fr_7857 _ (by first | omega | (dsimp only; omega))) (kp_7858 3 rfl) (kp_7858 44 rfl) (kp_7858 45 rfl) (kp_7858 47 rfl) (kp_7858 48 rfl) (by omega) (by omega)
              exact (hp _ _ _ hR_7856 hf_7859 (Or.inr rfl) (by first | omega | (intro h; omega) | exact Or.inl rfl | exact Or.inr rfl) (by first | omega | (intro h; omega) | exact Or.inl rfl | exact Or.inr rfl) (by first | omega | (intro h; omega) | exact Or.inl rfl | exact Or.inr rfl) (by first | omega | (intro h; omega) | exact Or.inl rfl | exact Or.inr rfl) (by first | omega | (intro h; omega) | exact Or.inl rfl | exact Or.inr rfl) (by first | (intro h; exfalso; omega) | exact fun _ => k_7870 | exact fun _ => (False.elim (by omega))) k_7869 u_7852 u_7853)
            · have d_7871 := iEq c_7796
              have i_7872 := u_7794 (by omega)
              exact (hp _ _ _ hR_7773 hf_7776 (Or.inr rfl) (by first | omega | (intro h; omega) | exact Or.inl rfl | exact Or.inr rfl) (by first | omega | (intro h; omega) | exact Or.inl rfl | exact Or.inr rfl) (by first | omega | (intro h; omega) | exact Or.inl rfl | exact Or.inr rfl) (by first | omega | (intro h; omega) | exact Or.inl rfl | exact Or.inr rfl) (by first | omega | (intro h; omega) | exact Or.inl rfl | exact Or.inr rfl) (by first | (intro h; exfalso; omega) | exact fun _ => k_7787 | exact fun _ => (False.elim (by omega))) k_7788 k_7789 k_7790)
theorem y_Model_unit {D : va_G} {cA : FieldType → ClassId} {b : Nat} {E : State → Prop} {R : qRg} {o n : Nat} {sh : Nat → qC} {Rf : Nat → Nat → Option Nat} {I0 : Nat → Nat → Int32} {L0 : Nat → Nat → Int64} {post : Option Value → qS → Prop} {f0 : Nat} (hok : q_ok (qGG D cA b E)) (hw : WfModel (qGG D cA b E) n sh Rf o) (ra : RAModel R o) (hz14 : R.2 14 = true) (hz15 : R.2 15 = true) (hz16 : R.2 16 = true) (hz17 : R.2 17 = true) (hz18 : R.2 18 = true) (hz19 : R.2 19 = true) (hz55 : R.2 55 = true) (hz56 : R.2 56 = true) (hz57 : R.2 57 = true) (hz58 : R.2 58 = true) (hq0 : (I0 o 7).toInt ≤ (I0 o 3).toInt) (hq1 : (I0 o 4).toInt = 0) (hq2 : EX 0 0 0 f0 1 I0 o) (hq3 : MTd I0 o) (hq4 : MPo I0 o) (hq5 : MTk I0 o) (hR : RI R I0) (hp : ∀ (r : Int32) (I' : Nat → Nat → Int32) (L' : Nat → Nat → Int64), RI R I' → Fm (fun c => c = o ∨ (o + 30 ≤ c ∧ c < o + 34)) I0 I' → Kp wModel_unit I0 I' o → (Bz r) → ((I' o 7).toInt ≤ (I' o 3).toInt) → ((I0 o 7).toInt ≤ (I' o 7).toInt) → ((I0 o 4).toInt ≤ (I' o 4).toInt) → (7 * (I0 o 7).toInt - (I0 o 8).toInt + (I0 o 4).toInt ≤ 7 * (I' o 7).toInt - (I' o 8).toInt + (I' o 4).toInt) → (81 * (7 * (I0 o 7).toInt - (I0 o 8).toInt + (I0 o 4).toInt) - (I0 o 48).toInt < 81 * (7 * (I' o 7).toInt - (I' o 8).toInt + (I' o 4).toInt) - (I' o 48).toInt) → (Im ((I' o 4).toInt = 0) (EX 0 0 0 f0 r.toInt I' o)) → (MTd I' o) → (MPo I' o) → (MTk I' o) → post (some (.int r)) (n, sh, Rf, I', L')) : Ev (qGG D cA b E) mModel_unit 3 (0, 0) 0 (lv_args 0 [.ref o]) [] (n, sh, Rf, I0, L0) post :=
  yc_Model_unit (R := fzR R I0 o wModel_unit) hok hw (fzA ra hR _) (fzT hz14 rfl) (fzT hz15 rfl) (fzT hz16 rfl) (fzT hz17 rfl) (fzT hz18 rfl) (fzT hz19 rfl) (fzT hz55 rfl) (fzT hz56 rfl) (fzT hz57 rfl) (fzT hz58 rfl) fzZ (fzI hR) hq0 hq1 hq2 hq3 hq4 hq5 (fzI hR) (fun r I' L' h1 h2 u0 u1 u2 u3 u4 u5 u6 u7 u8 u9 => hp r I' L' (fzB hR h1) h2 (fzP h1) u0 u1 u2 u3 u4 u5 u6 u7 u8 u9)
