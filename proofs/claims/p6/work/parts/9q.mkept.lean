/-! Safety of the reference, what is kept and laid: by program (spec.py). -/
def wModel_keep : Nat → Bool := fun j => Nat.beq j 173 || false
set_option maxHeartbeats 4000000 in
set_option maxRecDepth 20000 in
theorem yc_Model_keep {D : va_G} {cA : FieldType → ClassId} {b : Nat} {E : State → Prop} {R : qRg} {o n : Nat} {sh : Nat → qC} {Rf : Nat → Nat → Option Nat} {I0 : Nat → Nat → Int32} {L0 : Nat → Nat → Int64} {post : Option Value → qS → Prop} (hok : q_ok (qGG D cA b E)) (hw : WfModel (qGG D cA b E) n sh Rf o) (ra : RAModel R o) (hz173 : R.2 173 = true) (hZ : Fz R I0 o wModel_keep) (hR0 : RI R I0) (hR : RI R I0) (hp : ∀ (I' : Nat → Nat → Int32) (L' : Nat → Nat → Int64), RI R I' → Fm (fun c => c = o ∨ (o + 81 ≤ c ∧ c < o + 98)) I0 I' → post none (n, sh, Rf, I', L')) : Ev (qGG D cA b E) mModel_keep 1 (0, 0) 0 (lv_args 0 [.ref o]) [] (n, sh, Rf, I0, L0) post := by
  have hf : Fm (fun c => c = o ∨ (o + 81 ≤ c ∧ c < o + 98)) I0 I0 := Fm.rf
  refine sModel_keep_0 o n sh Rf I0 L0 post  hok hw ?_
  unfold fModel_keep_0
  have g_1 : (0 : Int) ≤ (I0 o 104).toInt ∧ (I0 o 104).toInt ≤ 2000 := hR.at0 ra 104 (by decide)
  refine fun I_2 e_3 => ?_
  have hR_4 : RI R I_2 := hR.up0 (k := 163) ra (by decide) (Or.inr hz173) e_3 (show (0 : Int) ≤ (I0 o 104).toInt by omega) (show (I0 o 104).toInt ≤ (2000 : Int) by omega)
  have hf_5 : Fm (fun c => c = o ∨ (o + 81 ≤ c ∧ c < o + 98)) I0 I_2 := hf.set (by first | rfl | omega | (dsimp only; omega)) e_3
  have t_6 : (I_2 o 104).toInt = (I0 o 104).toInt := by rw [← e_3, q_u_k (by decide)]
  have t_7 : (I_2 o 163).toInt = (I0 o 104).toInt := by rw [← e_3, q_u_at]
  have g_8 : (0 : Int) ≤ (I_2 o 104).toInt ∧ (I_2 o 104).toInt ≤ 2000 := hR_4.at0 ra 104 (by decide)
  refine y_copy (R := R) hok (fun _ _ => waModel_84 hw) (fun _ _ => waModel_142 hw) (by decide) (by omega) (by omega) (by omega) hR_4 (fun j k => by rw [ra.eq 51 (by decide) j (Or.inl rfl), ra.eq 81 (by decide) k (Or.inl rfl)]; exact ⟨Int.le_refl _, Int.le_refl _⟩) (fun I_9 hR_10 ne_11 => ⟨I_9, L0, rfl, rfl, ?_⟩)
  have hf_12 : Fm (fun c => c = o ∨ (o + 81 ≤ c ∧ c < o + 98)) I0 I_9 := hf_5.call (M' := fun c => c = (o + 81)) ne_11 (fun c hc => by first | exact hc | (dsimp only at hc ⊢; omega) | omega)
  have t_13 : (I_9 o 104).toInt = (I_2 o 104).toInt := by rw [ne_11 o (by omega)]
  have t_14 : (I_9 o 163).toInt = (I_2 o 163).toInt := by rw [ne_11 o (by omega)]
  have g_15 : (0 : Int) ≤ (I_9 o 104).toInt ∧ (I_9 o 104).toInt ≤ 2000 := hR_10.at0 ra 104 (by decide)
  refine y_copy (R := R) hok (fun _ _ => waModel_85 hw) (fun _ _ => waModel_143 hw) (by decide) (by omega) (by omega) (by omega) hR_10 (fun j k => by rw [ra.eq 52 (by decide) j (Or.inl rfl), ra.eq 82 (by decide) k (Or.inl rfl)]; exact ⟨Int.le_refl _, Int.le_refl _⟩) (fun I_16 hR_17 ne_18 => ⟨I_16, L0, rfl, rfl, ?_⟩)
  have hf_19 : Fm (fun c => c = o ∨ (o + 81 ≤ c ∧ c < o + 98)) I0 I_16 := hf_12.call (M' := fun c => c = (o + 82)) ne_18 (fun c hc => by first | exact hc | (dsimp only at hc ⊢; omega) | omega)
  have t_20 : (I_16 o 104).toInt = (I_9 o 104).toInt := by rw [ne_18 o (by omega)]
  have t_21 : (I_16 o 163).toInt = (I_9 o 163).toInt := by rw [ne_18 o (by omega)]
  have g_22 : (0 : Int) ≤ (I_16 o 104).toInt ∧ (I_16 o 104).toInt ≤ 2000 := hR_17.at0 ra 104 (by decide)
  refine y_copy (R := R) hok (fun _ _ => waModel_86 hw) (fun _ _ => waModel_144 hw) (by decide) (by omega) (by omega) (by omega) hR_17 (fun j k => by rw [ra.eq 53 (by decide) j (Or.inl rfl), ra.eq 83 (by decide) k (Or.inl rfl)]; exact ⟨Int.le_refl _, Int.le_refl _⟩) (fun I_23 hR_24 ne_25 => ⟨I_23, L0, rfl, rfl, ?_⟩)
  have hf_26 : Fm (fun c => c = o ∨ (o + 81 ≤ c ∧ c < o + 98)) I0 I_23 := hf_19.call (M' := fun c => c = (o + 83)) ne_25 (fun c hc => by first | exact hc | (dsimp only at hc ⊢; omega) | omega)
  have t_27 : (I_23 o 104).toInt = (I_16 o 104).toInt := by rw [ne_25 o (by omega)]
  have t_28 : (I_23 o 163).toInt = (I_16 o 163).toInt := by rw [ne_25 o (by omega)]
  have g_29 : (0 : Int) ≤ (I_23 o 104).toInt ∧ (I_23 o 104).toInt ≤ 2000 := hR_24.at0 ra 104 (by decide)
  refine y_copy (R := R) hok (fun _ _ => waModel_87 hw) (fun _ _ => waModel_145 hw) (by decide) (by omega) (by omega) (by omega) hR_24 (fun j k => by rw [ra.eq 54 (by decide) j (Or.inl rfl), ra.eq 84 (by decide) k (Or.inl rfl)]; exact ⟨Int.le_refl _, Int.le_refl _⟩) (fun I_30 hR_31 ne_32 => ⟨I_30, L0, rfl, rfl, ?_⟩)
  have hf_33 : Fm (fun c => c = o ∨ (o + 81 ≤ c ∧ c < o + 98)) I0 I_30 := hf_26.call (M' := fun c => c = (o + 84)) ne_32 (fun c hc => by first | exact hc | (dsimp only at hc ⊢; omega) | omega)
  have t_34 : (I_30 o 104).toInt = (I_23 o 104).toInt := by rw [ne_32 o (by omega)]
  have t_35 : (I_30 o 163).toInt = (I_23 o 163).toInt := by rw [ne_32 o (by omega)]
  have g_36 : (0 : Int) ≤ (I_30 o 104).toInt ∧ (I_30 o 104).toInt ≤ 2000 := hR_31.at0 ra 104 (by decide)
  refine y_copy (R := R) hok (fun _ _ => waModel_88 hw) (fun _ _ => waModel_146 hw) (by decide) (by omega) (by omega) (by omega) hR_31 (fun j k => by rw [ra.eq 55 (by decide) j (Or.inl rfl), ra.eq 85 (by decide) k (Or.inl rfl)]; exact ⟨Int.le_refl _, Int.le_refl _⟩) (fun I_37 hR_38 ne_39 => ⟨I_37, L0, rfl, rfl, ?_⟩)
  have hf_40 : Fm (fun c => c = o ∨ (o + 81 ≤ c ∧ c < o + 98)) I0 I_37 := hf_33.call (M' := fun c => c = (o + 85)) ne_39 (fun c hc => by first | exact hc | (dsimp only at hc ⊢; omega) | omega)
  have t_41 : (I_37 o 104).toInt = (I_30 o 104).toInt := by rw [ne_39 o (by omega)]
  have t_42 : (I_37 o 163).toInt = (I_30 o 163).toInt := by rw [ne_39 o (by omega)]
  have g_43 : (0 : Int) ≤ (I_37 o 104).toInt ∧ (I_37 o 104).toInt ≤ 2000 := hR_38.at0 ra 104 (by decide)
  refine y_copy (R := R) hok (fun _ _ => waModel_89 hw) (fun _ _ => waModel_147 hw) (by decide) (by omega) (by omega) (by omega) hR_38 (fun j k => by rw [ra.eq 56 (by decide) j (Or.inl rfl), ra.eq 86 (by decide) k (Or.inl rfl)]; exact ⟨Int.le_refl _, Int.le_refl _⟩) (fun I_44 hR_45 ne_46 => ⟨I_44, L0, rfl, rfl, ?_⟩)
  have hf_47 : Fm (fun c => c = o ∨ (o + 81 ≤ c ∧ c < o + 98)) I0 I_44 := hf_40.call (M' := fun c => c = (o + 86)) ne_46 (fun c hc => by first | exact hc | (dsimp only at hc ⊢; omega) | omega)
  have t_48 : (I_44 o 104).toInt = (I_37 o 104).toInt := by rw [ne_46 o (by omega)]
  have t_49 : (I_44 o 163).toInt = (I_37 o 163).toInt := by rw [ne_46 o (by omega)]
  have g_50 : (0 : Int) ≤ (I_44 o 104).toInt ∧ (I_44 o 104).toInt ≤ 2000 := hR_45.at0 ra 104 (by decide)
  refine y_copyT (R := R) hok (fun _ _ => waModel_98 hw) (fun _ _ => waModel_157 hw) (by decide) (by omega) (by omega) hR_45 (fun k => by rw [ra.eq 96 (by decide) k (Or.inl rfl)]; exact ⟨Int.le_refl _, Int.le_refl _⟩) (fun I_51 hR_52 ne_53 => ⟨I_51, L0, rfl, rfl, ?_⟩)
  have hf_54 : Fm (fun c => c = o ∨ (o + 81 ≤ c ∧ c < o + 98)) I0 I_51 := hf_47.call (M' := fun c => c = (o + 96)) ne_53 (fun c hc => by first | exact hc | (dsimp only at hc ⊢; omega) | omega)
  have t_55 : (I_51 o 104).toInt = (I_44 o 104).toInt := by rw [ne_53 o (by omega)]
  have t_56 : (I_51 o 163).toInt = (I_44 o 163).toInt := by rw [ne_53 o (by omega)]
  have g_57 : (0 : Int) ≤ (I_51 o 104).toInt ∧ (I_51 o 104).toInt ≤ 2000 := hR_52.at0 ra 104 (by decide)
  refine y_copyT (R := R) hok (fun _ _ => waModel_99 hw) (fun _ _ => waModel_158 hw) (by decide) (by omega) (by omega) hR_52 (fun k => by rw [ra.eq 97 (by decide) k (Or.inl rfl)]; exact ⟨Int.le_refl _, Int.le_refl _⟩) (fun I_58 hR_59 ne_60 => ⟨I_58, L0, rfl, rfl, ?_⟩)
  have hf_61 : Fm (fun c => c = o ∨ (o + 81 ≤ c ∧ c < o + 98)) I0 I_58 := hf_54.call (M' := fun c => c = (o + 97)) ne_60 (fun c hc => by first | exact hc | (dsimp only at hc ⊢; omega) | omega)
  have t_62 : (I_58 o 104).toInt = (I_51 o 104).toInt := by rw [ne_60 o (by omega)]
  have t_63 : (I_58 o 163).toInt = (I_51 o 163).toInt := by rw [ne_60 o (by omega)]
  have l_64 : (3 : Int32).toInt = 3 := rfl
  refine y_copy (R := R) hok (fun _ _ => waModel_75 hw) (fun _ _ => waModel_148 hw) (by decide) (by omega) (by omega) (by omega) hR_59 (fun j k => by rw [ra.eq 42 (by decide) j (Or.inl rfl), ra.eq 87 (by decide) k (Or.inl rfl)]; exact ⟨Int.le_refl _, Int.le_refl _⟩) (fun I_65 hR_66 ne_67 => ⟨I_65, L0, rfl, rfl, ?_⟩)
  have hf_68 : Fm (fun c => c = o ∨ (o + 81 ≤ c ∧ c < o + 98)) I0 I_65 := hf_61.call (M' := fun c => c = (o + 87)) ne_67 (fun c hc => by first | exact hc | (dsimp only at hc ⊢; omega) | omega)
  have t_69 : (I_65 o 104).toInt = (I_58 o 104).toInt := by rw [ne_67 o (by omega)]
  have t_70 : (I_65 o 163).toInt = (I_58 o 163).toInt := by rw [ne_67 o (by omega)]
  refine y_copy (R := R) hok (fun _ _ => waModel_77 hw) (fun _ _ => waModel_149 hw) (by decide) (by omega) (by omega) (by omega) hR_66 (fun j k => by rw [ra.eq 44 (by decide) j (Or.inl rfl), ra.eq 88 (by decide) k (Or.inl rfl)]; exact ⟨Int.le_refl _, Int.le_refl _⟩) (fun I_71 hR_72 ne_73 => ⟨I_71, L0, rfl, rfl, ?_⟩)
  have hf_74 : Fm (fun c => c = o ∨ (o + 81 ≤ c ∧ c < o + 98)) I0 I_71 := hf_68.call (M' := fun c => c = (o + 88)) ne_73 (fun c hc => by first | exact hc | (dsimp only at hc ⊢; omega) | omega)
  have t_75 : (I_71 o 104).toInt = (I_65 o 104).toInt := by rw [ne_73 o (by omega)]
  have t_76 : (I_71 o 163).toInt = (I_65 o 163).toInt := by rw [ne_73 o (by omega)]
  have l_77 : (5 : Int32).toInt = 5 := rfl
  refine y_copy (R := R) hok (fun _ _ => waModel_78 hw) (fun _ _ => waModel_150 hw) (by decide) (by omega) (by omega) (by omega) hR_72 (fun j k => by rw [ra.eq 45 (by decide) j (Or.inl rfl), ra.eq 89 (by decide) k (Or.inl rfl)]; exact ⟨Int.le_refl _, Int.le_refl _⟩) (fun I_78 hR_79 ne_80 => ⟨I_78, L0, rfl, rfl, ?_⟩)
  have hf_81 : Fm (fun c => c = o ∨ (o + 81 ≤ c ∧ c < o + 98)) I0 I_78 := hf_74.call (M' := fun c => c = (o + 89)) ne_80 (fun c hc => by first | exact hc | (dsimp only at hc ⊢; omega) | omega)
  have t_82 : (I_78 o 104).toInt = (I_71 o 104).toInt := by rw [ne_80 o (by omega)]
  have t_83 : (I_78 o 163).toInt = (I_71 o 163).toInt := by rw [ne_80 o (by omega)]
  have l_84 : (18 : Int32).toInt = 18 := rfl
  refine y_copy (R := R) hok (fun _ _ => waModel_81 hw) (fun _ _ => waModel_151 hw) (by decide) (by omega) (by omega) (by omega) hR_79 (fun j k => by rw [ra.eq 48 (by decide) j (Or.inl rfl), ra.eq 90 (by decide) k (Or.inl rfl)]; exact ⟨Int.le_refl _, Int.le_refl _⟩) (fun I_85 hR_86 ne_87 => ⟨I_85, L0, rfl, rfl, ?_⟩)
  have hf_88 : Fm (fun c => c = o ∨ (o + 81 ≤ c ∧ c < o + 98)) I0 I_85 := hf_81.call (M' := fun c => c = (o + 90)) ne_87 (fun c hc => by first | exact hc | (dsimp only at hc ⊢; omega) | omega)
  have t_89 : (I_85 o 104).toInt = (I_78 o 104).toInt := by rw [ne_87 o (by omega)]
  have t_90 : (I_85 o 163).toInt = (I_78 o 163).toInt := by rw [ne_87 o (by omega)]
  have l_91 : (6 : Int32).toInt = 6 := rfl
  refine y_copy (R := R) hok (fun _ _ => waModel_82 hw) (fun _ _ => waModel_152 hw) (by decide) (by omega) (by omega) (by omega) hR_86 (fun j k => by rw [ra.eq 49 (by decide) j (Or.inl rfl), ra.eq 91 (by decide) k (Or.inl rfl)]; exact ⟨Int.le_refl _, Int.le_refl _⟩) (fun I_92 hR_93 ne_94 => ⟨I_92, L0, rfl, rfl, ?_⟩)
  have hf_95 : Fm (fun c => c = o ∨ (o + 81 ≤ c ∧ c < o + 98)) I0 I_92 := hf_88.call (M' := fun c => c = (o + 91)) ne_94 (fun c hc => by first | exact hc | (dsimp only at hc ⊢; omega) | omega)
  have t_96 : (I_92 o 104).toInt = (I_85 o 104).toInt := by rw [ne_94 o (by omega)]
  have t_97 : (I_92 o 163).toInt = (I_85 o 163).toInt := by rw [ne_94 o (by omega)]
  refine y_copyL hok (fun _ _ => waModel_101 hw) (fun _ _ => waModel_159 hw) (by decide) (by omega) (by omega) (fun L_98 => ⟨I_92, L_98, rfl, rfl, ?_⟩)
  have l_99 : (1440 : Int32).toInt = 1440 := rfl
  refine y_copy (R := R) hok (fun _ _ => waModel_129 hw) (fun _ _ => waModel_153 hw) (by decide) (by omega) (by omega) (by omega) hR_93 (fun j k => by rw [ra.eq 71 (by decide) j (Or.inl rfl), ra.eq 92 (by decide) k (Or.inl rfl)]; exact ⟨Int.le_refl _, Int.le_refl _⟩) (fun I_100 hR_101 ne_102 => ⟨I_100, L_98, rfl, rfl, ?_⟩)
  have hf_103 : Fm (fun c => c = o ∨ (o + 81 ≤ c ∧ c < o + 98)) I0 I_100 := hf_95.call (M' := fun c => c = (o + 92)) ne_102 (fun c hc => by first | exact hc | (dsimp only at hc ⊢; omega) | omega)
  have t_104 : (I_100 o 104).toInt = (I_92 o 104).toInt := by rw [ne_102 o (by omega)]
  have t_105 : (I_100 o 163).toInt = (I_92 o 163).toInt := by rw [ne_102 o (by omega)]
  refine y_copy (R := R) hok (fun _ _ => waModel_130 hw) (fun _ _ => waModel_154 hw) (by decide) (by omega) (by omega) (by omega) hR_101 (fun j k => by rw [ra.eq 72 (by decide) j (Or.inl rfl), ra.eq 93 (by decide) k (Or.inl rfl)]; exact ⟨Int.le_refl _, Int.le_refl _⟩) (fun I_106 hR_107 ne_108 => ⟨I_106, L_98, rfl, rfl, ?_⟩)
  have hf_109 : Fm (fun c => c = o ∨ (o + 81 ≤ c ∧ c < o + 98)) I0 I_106 := hf_103.call (M' := fun c => c = (o + 93)) ne_108 (fun c hc => by first | exact hc | (dsimp only at hc ⊢; omega) | omega)
  have t_110 : (I_106 o 104).toInt = (I_100 o 104).toInt := by rw [ne_108 o (by omega)]
  have t_111 : (I_106 o 163).toInt = (I_100 o 163).toInt := by rw [ne_108 o (by omega)]
  have l_112 : (3600 : Int32).toInt = 3600 := rfl
  refine y_copy (R := R) hok (fun _ _ => waModel_131 hw) (fun _ _ => waModel_155 hw) (by decide) (by omega) (by omega) (by omega) hR_107 (fun j k => by rw [ra.eq 73 (by decide) j (Or.inl rfl), ra.eq 94 (by decide) k (Or.inl rfl)]; exact ⟨Int.le_refl _, Int.le_refl _⟩) (fun I_113 hR_114 ne_115 => ⟨I_113, L_98, rfl, rfl, ?_⟩)
  have hf_116 : Fm (fun c => c = o ∨ (o + 81 ≤ c ∧ c < o + 98)) I0 I_113 := hf_109.call (M' := fun c => c = (o + 94)) ne_115 (fun c hc => by first | exact hc | (dsimp only at hc ⊢; omega) | omega)
  have t_117 : (I_113 o 104).toInt = (I_106 o 104).toInt := by rw [ne_115 o (by omega)]
  have t_118 : (I_113 o 163).toInt = (I_106 o 163).toInt := by rw [ne_115 o (by omega)]
  refine y_copy (R := R) hok (fun _ _ => waModel_132 hw) (fun _ _ => waModel_156 hw) (by decide) (by omega) (by omega) (by omega) hR_114 (fun j k => by rw [ra.eq 74 (by decide) j (Or.inl rfl), ra.eq 95 (by decide) k (Or.inl rfl)]; exact ⟨Int.le_refl _, Int.le_refl _⟩) (fun I_119 hR_120 ne_121 => ⟨I_119, L_98, rfl, rfl, ?_⟩)
  have hf_122 : Fm (fun c => c = o ∨ (o + 81 ≤ c ∧ c < o + 98)) I0 I_119 := hf_116.call (M' := fun c => c = (o + 95)) ne_121 (fun c hc => by first | exact hc | (dsimp only at hc ⊢; omega) | omega)
  have t_123 : (I_119 o 104).toInt = (I_113 o 104).toInt := by rw [ne_121 o (by omega)]
  have t_124 : (I_119 o 163).toInt = (I_113 o 163).toInt := by rw [ne_121 o (by omega)]
  refine y_copyL hok (fun _ _ => waModel_133 hw) (fun _ _ => waModel_160 hw) (by decide) (by omega) (by omega) (fun L_125 => ⟨I_119, L_125, rfl, rfl, ?_⟩)
  refine y_copyL hok (fun _ _ => waModel_134 hw) (fun _ _ => waModel_161 hw) (by decide) (by omega) (by omega) (fun L_126 => ⟨I_119, L_126, rfl, rfl, ?_⟩)
  have l_127 : (0 : Int32).toInt = 0 := rfl
  refine fun L_128 e_129 => ?_
  have l_130 : (1 : Int32).toInt = 1 := rfl
  refine fun L_131 e_132 => ?_
  have l_133 : (2 : Int32).toInt = 2 := rfl
  refine fun L_134 e_135 => ?_
  refine fun L_136 e_137 => ?_
  have l_138 : (4 : Int32).toInt = 4 := rfl
  refine fun L_139 e_140 => ?_
  refine fun L_141 e_142 => ?_
  refine fun L_143 e_144 => ?_
  have l_145 : (7 : Int32).toInt = 7 := rfl
  refine fun L_146 e_147 => ?_
  exact (hp _ _ hR_120 hf_122 )
theorem y_Model_keep {D : va_G} {cA : FieldType → ClassId} {b : Nat} {E : State → Prop} {R : qRg} {o n : Nat} {sh : Nat → qC} {Rf : Nat → Nat → Option Nat} {I0 : Nat → Nat → Int32} {L0 : Nat → Nat → Int64} {post : Option Value → qS → Prop} (hok : q_ok (qGG D cA b E)) (hw : WfModel (qGG D cA b E) n sh Rf o) (ra : RAModel R o) (hz173 : R.2 173 = true) (hR : RI R I0) (hp : ∀ (I' : Nat → Nat → Int32) (L' : Nat → Nat → Int64), RI R I' → Fm (fun c => c = o ∨ (o + 81 ≤ c ∧ c < o + 98)) I0 I' → Kp wModel_keep I0 I' o → post none (n, sh, Rf, I', L')) : Ev (qGG D cA b E) mModel_keep 1 (0, 0) 0 (lv_args 0 [.ref o]) [] (n, sh, Rf, I0, L0) post :=
  yc_Model_keep (R := fzR R I0 o wModel_keep) hok hw (fzA ra hR _) (fzT hz173 rfl) fzZ (fzI hR) (fzI hR) (fun I' L' h1 h2  => hp I' L' (fzB hR h1) h2 (fzP h1) )
def wModel_restore : Nat → Bool := fun j => Nat.beq j 114 || false
set_option maxHeartbeats 4000000 in
set_option maxRecDepth 20000 in
theorem yc_Model_restore {D : va_G} {cA : FieldType → ClassId} {b : Nat} {E : State → Prop} {R : qRg} {o n : Nat} {sh : Nat → qC} {Rf : Nat → Nat → Option Nat} {I0 : Nat → Nat → Int32} {L0 : Nat → Nat → Int64} {post : Option Value → qS → Prop} (hok : q_ok (qGG D cA b E)) (hw : WfModel (qGG D cA b E) n sh Rf o) (ra : RAModel R o) (hz114 : R.2 114 = true) (hZ : Fz R I0 o wModel_restore) (hR0 : RI R I0) (hR : RI R I0) (hp : ∀ (I' : Nat → Nat → Int32) (L' : Nat → Nat → Int64), RI R I' → Fm (fun c => c = o ∨ c = o + 42 ∨ c = o + 44 ∨ c = o + 45 ∨ c = o + 48 ∨ c = o + 49 ∨ (o + 51 ≤ c ∧ c < o + 57) ∨ c = o + 65 ∨ c = o + 66 ∨ (o + 71 ≤ c ∧ c < o + 75)) I0 I' → post none (n, sh, Rf, I', L')) : Ev (qGG D cA b E) mModel_restore 1 (0, 0) 0 (lv_args 0 [.ref o]) [] (n, sh, Rf, I0, L0) post := by
  have hf : Fm (fun c => c = o ∨ c = o + 42 ∨ c = o + 44 ∨ c = o + 45 ∨ c = o + 48 ∨ c = o + 49 ∨ (o + 51 ≤ c ∧ c < o + 57) ∨ c = o + 65 ∨ c = o + 66 ∨ (o + 71 ≤ c ∧ c < o + 75)) I0 I0 := Fm.rf
  refine sModel_restore_0 o n sh Rf I0 L0 post  hok hw ?_
  unfold fModel_restore_0
  have g_1 : (0 : Int) ≤ (I0 o 163).toInt ∧ (I0 o 163).toInt ≤ 2000 := hR.at0 ra 163 (by decide)
  refine fun I_2 e_3 => ?_
  have hR_4 : RI R I_2 := hR.up0 (k := 104) ra (by decide) (Or.inr hz114) e_3 (show (0 : Int) ≤ (I0 o 163).toInt by omega) (show (I0 o 163).toInt ≤ (2000 : Int) by omega)
  have hf_5 : Fm (fun c => c = o ∨ c = o + 42 ∨ c = o + 44 ∨ c = o + 45 ∨ c = o + 48 ∨ c = o + 49 ∨ (o + 51 ≤ c ∧ c < o + 57) ∨ c = o + 65 ∨ c = o + 66 ∨ (o + 71 ≤ c ∧ c < o + 75)) I0 I_2 := hf.set (by first | rfl | omega | (dsimp only; omega)) e_3
  have t_6 : (I_2 o 163).toInt = (I0 o 163).toInt := by rw [← e_3, q_u_k (by decide)]
  have t_7 : (I_2 o 104).toInt = (I0 o 163).toInt := by rw [← e_3, q_u_at]
  have g_8 : (0 : Int) ≤ (I_2 o 104).toInt ∧ (I_2 o 104).toInt ≤ 2000 := hR_4.at0 ra 104 (by decide)
  refine y_copy (R := R) hok (fun _ _ => waModel_142 hw) (fun _ _ => waModel_84 hw) (by decide) (by omega) (by omega) (by omega) hR_4 (fun j k => by rw [ra.eq 81 (by decide) j (Or.inl rfl), ra.eq 51 (by decide) k (Or.inl rfl)]; exact ⟨Int.le_refl _, Int.le_refl _⟩) (fun I_9 hR_10 ne_11 => ⟨I_9, L0, rfl, rfl, ?_⟩)
  have hf_12 : Fm (fun c => c = o ∨ c = o + 42 ∨ c = o + 44 ∨ c = o + 45 ∨ c = o + 48 ∨ c = o + 49 ∨ (o + 51 ≤ c ∧ c < o + 57) ∨ c = o + 65 ∨ c = o + 66 ∨ (o + 71 ≤ c ∧ c < o + 75)) I0 I_9 := hf_5.call (M' := fun c => c = (o + 51)) ne_11 (fun c hc => by first | exact hc | (dsimp only at hc ⊢; omega) | omega)
  have t_13 : (I_9 o 163).toInt = (I_2 o 163).toInt := by rw [ne_11 o (by omega)]
  have t_14 : (I_9 o 104).toInt = (I_2 o 104).toInt := by rw [ne_11 o (by omega)]
  have g_15 : (0 : Int) ≤ (I_9 o 104).toInt ∧ (I_9 o 104).toInt ≤ 2000 := hR_10.at0 ra 104 (by decide)
  refine y_copy (R := R) hok (fun _ _ => waModel_143 hw) (fun _ _ => waModel_85 hw) (by decide) (by omega) (by omega) (by omega) hR_10 (fun j k => by rw [ra.eq 82 (by decide) j (Or.inl rfl), ra.eq 52 (by decide) k (Or.inl rfl)]; exact ⟨Int.le_refl _, Int.le_refl _⟩) (fun I_16 hR_17 ne_18 => ⟨I_16, L0, rfl, rfl, ?_⟩)
  have hf_19 : Fm (fun c => c = o ∨ c = o + 42 ∨ c = o + 44 ∨ c = o + 45 ∨ c = o + 48 ∨ c = o + 49 ∨ (o + 51 ≤ c ∧ c < o + 57) ∨ c = o + 65 ∨ c = o + 66 ∨ (o + 71 ≤ c ∧ c < o + 75)) I0 I_16 := hf_12.call (M' := fun c => c = (o + 52)) ne_18 (fun c hc => by first | exact hc | (dsimp only at hc ⊢; omega) | omega)
  have t_20 : (I_16 o 163).toInt = (I_9 o 163).toInt := by rw [ne_18 o (by omega)]
  have t_21 : (I_16 o 104).toInt = (I_9 o 104).toInt := by rw [ne_18 o (by omega)]
  have g_22 : (0 : Int) ≤ (I_16 o 104).toInt ∧ (I_16 o 104).toInt ≤ 2000 := hR_17.at0 ra 104 (by decide)
  refine y_copy (R := R) hok (fun _ _ => waModel_144 hw) (fun _ _ => waModel_86 hw) (by decide) (by omega) (by omega) (by omega) hR_17 (fun j k => by rw [ra.eq 83 (by decide) j (Or.inl rfl), ra.eq 53 (by decide) k (Or.inl rfl)]; exact ⟨Int.le_refl _, Int.le_refl _⟩) (fun I_23 hR_24 ne_25 => ⟨I_23, L0, rfl, rfl, ?_⟩)
  have hf_26 : Fm (fun c => c = o ∨ c = o + 42 ∨ c = o + 44 ∨ c = o + 45 ∨ c = o + 48 ∨ c = o + 49 ∨ (o + 51 ≤ c ∧ c < o + 57) ∨ c = o + 65 ∨ c = o + 66 ∨ (o + 71 ≤ c ∧ c < o + 75)) I0 I_23 := hf_19.call (M' := fun c => c = (o + 53)) ne_25 (fun c hc => by first | exact hc | (dsimp only at hc ⊢; omega) | omega)
  have t_27 : (I_23 o 163).toInt = (I_16 o 163).toInt := by rw [ne_25 o (by omega)]
  have t_28 : (I_23 o 104).toInt = (I_16 o 104).toInt := by rw [ne_25 o (by omega)]
  have g_29 : (0 : Int) ≤ (I_23 o 104).toInt ∧ (I_23 o 104).toInt ≤ 2000 := hR_24.at0 ra 104 (by decide)
  refine y_copy (R := R) hok (fun _ _ => waModel_145 hw) (fun _ _ => waModel_87 hw) (by decide) (by omega) (by omega) (by omega) hR_24 (fun j k => by rw [ra.eq 84 (by decide) j (Or.inl rfl), ra.eq 54 (by decide) k (Or.inl rfl)]; exact ⟨Int.le_refl _, Int.le_refl _⟩) (fun I_30 hR_31 ne_32 => ⟨I_30, L0, rfl, rfl, ?_⟩)
  have hf_33 : Fm (fun c => c = o ∨ c = o + 42 ∨ c = o + 44 ∨ c = o + 45 ∨ c = o + 48 ∨ c = o + 49 ∨ (o + 51 ≤ c ∧ c < o + 57) ∨ c = o + 65 ∨ c = o + 66 ∨ (o + 71 ≤ c ∧ c < o + 75)) I0 I_30 := hf_26.call (M' := fun c => c = (o + 54)) ne_32 (fun c hc => by first | exact hc | (dsimp only at hc ⊢; omega) | omega)
  have t_34 : (I_30 o 163).toInt = (I_23 o 163).toInt := by rw [ne_32 o (by omega)]
  have t_35 : (I_30 o 104).toInt = (I_23 o 104).toInt := by rw [ne_32 o (by omega)]
  have g_36 : (0 : Int) ≤ (I_30 o 104).toInt ∧ (I_30 o 104).toInt ≤ 2000 := hR_31.at0 ra 104 (by decide)
  refine y_copy (R := R) hok (fun _ _ => waModel_146 hw) (fun _ _ => waModel_88 hw) (by decide) (by omega) (by omega) (by omega) hR_31 (fun j k => by rw [ra.eq 85 (by decide) j (Or.inl rfl), ra.eq 55 (by decide) k (Or.inl rfl)]; exact ⟨Int.le_refl _, Int.le_refl _⟩) (fun I_37 hR_38 ne_39 => ⟨I_37, L0, rfl, rfl, ?_⟩)
  have hf_40 : Fm (fun c => c = o ∨ c = o + 42 ∨ c = o + 44 ∨ c = o + 45 ∨ c = o + 48 ∨ c = o + 49 ∨ (o + 51 ≤ c ∧ c < o + 57) ∨ c = o + 65 ∨ c = o + 66 ∨ (o + 71 ≤ c ∧ c < o + 75)) I0 I_37 := hf_33.call (M' := fun c => c = (o + 55)) ne_39 (fun c hc => by first | exact hc | (dsimp only at hc ⊢; omega) | omega)
  have t_41 : (I_37 o 163).toInt = (I_30 o 163).toInt := by rw [ne_39 o (by omega)]
  have t_42 : (I_37 o 104).toInt = (I_30 o 104).toInt := by rw [ne_39 o (by omega)]
  have g_43 : (0 : Int) ≤ (I_37 o 104).toInt ∧ (I_37 o 104).toInt ≤ 2000 := hR_38.at0 ra 104 (by decide)
  refine y_copy (R := R) hok (fun _ _ => waModel_147 hw) (fun _ _ => waModel_89 hw) (by decide) (by omega) (by omega) (by omega) hR_38 (fun j k => by rw [ra.eq 86 (by decide) j (Or.inl rfl), ra.eq 56 (by decide) k (Or.inl rfl)]; exact ⟨Int.le_refl _, Int.le_refl _⟩) (fun I_44 hR_45 ne_46 => ⟨I_44, L0, rfl, rfl, ?_⟩)
  have hf_47 : Fm (fun c => c = o ∨ c = o + 42 ∨ c = o + 44 ∨ c = o + 45 ∨ c = o + 48 ∨ c = o + 49 ∨ (o + 51 ≤ c ∧ c < o + 57) ∨ c = o + 65 ∨ c = o + 66 ∨ (o + 71 ≤ c ∧ c < o + 75)) I0 I_44 := hf_40.call (M' := fun c => c = (o + 56)) ne_46 (fun c hc => by first | exact hc | (dsimp only at hc ⊢; omega) | omega)
  have t_48 : (I_44 o 163).toInt = (I_37 o 163).toInt := by rw [ne_46 o (by omega)]
  have t_49 : (I_44 o 104).toInt = (I_37 o 104).toInt := by rw [ne_46 o (by omega)]
  have g_50 : (0 : Int) ≤ (I_44 o 104).toInt ∧ (I_44 o 104).toInt ≤ 2000 := hR_45.at0 ra 104 (by decide)
  refine y_copyT (R := R) hok (fun _ _ => waModel_157 hw) (fun _ _ => waModel_98 hw) (by decide) (by omega) (by omega) hR_45 (fun k => by rw [ra.eq 65 (by decide) k (Or.inl rfl)]; exact ⟨Int.le_refl _, Int.le_refl _⟩) (fun I_51 hR_52 ne_53 => ⟨I_51, L0, rfl, rfl, ?_⟩)
  have hf_54 : Fm (fun c => c = o ∨ c = o + 42 ∨ c = o + 44 ∨ c = o + 45 ∨ c = o + 48 ∨ c = o + 49 ∨ (o + 51 ≤ c ∧ c < o + 57) ∨ c = o + 65 ∨ c = o + 66 ∨ (o + 71 ≤ c ∧ c < o + 75)) I0 I_51 := hf_47.call (M' := fun c => c = (o + 65)) ne_53 (fun c hc => by first | exact hc | (dsimp only at hc ⊢; omega) | omega)
  have t_55 : (I_51 o 163).toInt = (I_44 o 163).toInt := by rw [ne_53 o (by omega)]
  have t_56 : (I_51 o 104).toInt = (I_44 o 104).toInt := by rw [ne_53 o (by omega)]
  have g_57 : (0 : Int) ≤ (I_51 o 104).toInt ∧ (I_51 o 104).toInt ≤ 2000 := hR_52.at0 ra 104 (by decide)
  refine y_copyT (R := R) hok (fun _ _ => waModel_158 hw) (fun _ _ => waModel_99 hw) (by decide) (by omega) (by omega) hR_52 (fun k => by rw [ra.eq 66 (by decide) k (Or.inl rfl)]; exact ⟨Int.le_refl _, Int.le_refl _⟩) (fun I_58 hR_59 ne_60 => ⟨I_58, L0, rfl, rfl, ?_⟩)
  have hf_61 : Fm (fun c => c = o ∨ c = o + 42 ∨ c = o + 44 ∨ c = o + 45 ∨ c = o + 48 ∨ c = o + 49 ∨ (o + 51 ≤ c ∧ c < o + 57) ∨ c = o + 65 ∨ c = o + 66 ∨ (o + 71 ≤ c ∧ c < o + 75)) I0 I_58 := hf_54.call (M' := fun c => c = (o + 66)) ne_60 (fun c hc => by first | exact hc | (dsimp only at hc ⊢; omega) | omega)
  have t_62 : (I_58 o 163).toInt = (I_51 o 163).toInt := by rw [ne_60 o (by omega)]
  have t_63 : (I_58 o 104).toInt = (I_51 o 104).toInt := by rw [ne_60 o (by omega)]
  have l_64 : (3 : Int32).toInt = 3 := rfl
  refine y_copy (R := R) hok (fun _ _ => waModel_148 hw) (fun _ _ => waModel_75 hw) (by decide) (by omega) (by omega) (by omega) hR_59 (fun j k => by rw [ra.eq 87 (by decide) j (Or.inl rfl), ra.eq 42 (by decide) k (Or.inl rfl)]; exact ⟨Int.le_refl _, Int.le_refl _⟩) (fun I_65 hR_66 ne_67 => ⟨I_65, L0, rfl, rfl, ?_⟩)
  have hf_68 : Fm (fun c => c = o ∨ c = o + 42 ∨ c = o + 44 ∨ c = o + 45 ∨ c = o + 48 ∨ c = o + 49 ∨ (o + 51 ≤ c ∧ c < o + 57) ∨ c = o + 65 ∨ c = o + 66 ∨ (o + 71 ≤ c ∧ c < o + 75)) I0 I_65 := hf_61.call (M' := fun c => c = (o + 42)) ne_67 (fun c hc => by first | exact hc | (dsimp only at hc ⊢; omega) | omega)
  have t_69 : (I_65 o 163).toInt = (I_58 o 163).toInt := by rw [ne_67 o (by omega)]
  have t_70 : (I_65 o 104).toInt = (I_58 o 104).toInt := by rw [ne_67 o (by omega)]
  refine y_copy (R := R) hok (fun _ _ => waModel_149 hw) (fun _ _ => waModel_77 hw) (by decide) (by omega) (by omega) (by omega) hR_66 (fun j k => by rw [ra.eq 88 (by decide) j (Or.inl rfl), ra.eq 44 (by decide) k (Or.inl rfl)]; exact ⟨Int.le_refl _, Int.le_refl _⟩) (fun I_71 hR_72 ne_73 => ⟨I_71, L0, rfl, rfl, ?_⟩)
  have hf_74 : Fm (fun c => c = o ∨ c = o + 42 ∨ c = o + 44 ∨ c = o + 45 ∨ c = o + 48 ∨ c = o + 49 ∨ (o + 51 ≤ c ∧ c < o + 57) ∨ c = o + 65 ∨ c = o + 66 ∨ (o + 71 ≤ c ∧ c < o + 75)) I0 I_71 := hf_68.call (M' := fun c => c = (o + 44)) ne_73 (fun c hc => by first | exact hc | (dsimp only at hc ⊢; omega) | omega)
  have t_75 : (I_71 o 163).toInt = (I_65 o 163).toInt := by rw [ne_73 o (by omega)]
  have t_76 : (I_71 o 104).toInt = (I_65 o 104).toInt := by rw [ne_73 o (by omega)]
  have l_77 : (5 : Int32).toInt = 5 := rfl
  refine y_copy (R := R) hok (fun _ _ => waModel_150 hw) (fun _ _ => waModel_78 hw) (by decide) (by omega) (by omega) (by omega) hR_72 (fun j k => by rw [ra.eq 89 (by decide) j (Or.inl rfl), ra.eq 45 (by decide) k (Or.inl rfl)]; exact ⟨Int.le_refl _, Int.le_refl _⟩) (fun I_78 hR_79 ne_80 => ⟨I_78, L0, rfl, rfl, ?_⟩)
  have hf_81 : Fm (fun c => c = o ∨ c = o + 42 ∨ c = o + 44 ∨ c = o + 45 ∨ c = o + 48 ∨ c = o + 49 ∨ (o + 51 ≤ c ∧ c < o + 57) ∨ c = o + 65 ∨ c = o + 66 ∨ (o + 71 ≤ c ∧ c < o + 75)) I0 I_78 := hf_74.call (M' := fun c => c = (o + 45)) ne_80 (fun c hc => by first | exact hc | (dsimp only at hc ⊢; omega) | omega)
  have t_82 : (I_78 o 163).toInt = (I_71 o 163).toInt := by rw [ne_80 o (by omega)]
  have t_83 : (I_78 o 104).toInt = (I_71 o 104).toInt := by rw [ne_80 o (by omega)]
  have l_84 : (18 : Int32).toInt = 18 := rfl
  refine y_copy (R := R) hok (fun _ _ => waModel_151 hw) (fun _ _ => waModel_81 hw) (by decide) (by omega) (by omega) (by omega) hR_79 (fun j k => by rw [ra.eq 90 (by decide) j (Or.inl rfl), ra.eq 48 (by decide) k (Or.inl rfl)]; exact ⟨Int.le_refl _, Int.le_refl _⟩) (fun I_85 hR_86 ne_87 => ⟨I_85, L0, rfl, rfl, ?_⟩)
  have hf_88 : Fm (fun c => c = o ∨ c = o + 42 ∨ c = o + 44 ∨ c = o + 45 ∨ c = o + 48 ∨ c = o + 49 ∨ (o + 51 ≤ c ∧ c < o + 57) ∨ c = o + 65 ∨ c = o + 66 ∨ (o + 71 ≤ c ∧ c < o + 75)) I0 I_85 := hf_81.call (M' := fun c => c = (o + 48)) ne_87 (fun c hc => by first | exact hc | (dsimp only at hc ⊢; omega) | omega)
  have t_89 : (I_85 o 163).toInt = (I_78 o 163).toInt := by rw [ne_87 o (by omega)]
  have t_90 : (I_85 o 104).toInt = (I_78 o 104).toInt := by rw [ne_87 o (by omega)]
  have l_91 : (6 : Int32).toInt = 6 := rfl
  refine y_copy (R := R) hok (fun _ _ => waModel_152 hw) (fun _ _ => waModel_82 hw) (by decide) (by omega) (by omega) (by omega) hR_86 (fun j k => by rw [ra.eq 91 (by decide) j (Or.inl rfl), ra.eq 49 (by decide) k (Or.inl rfl)]; exact ⟨Int.le_refl _, Int.le_refl _⟩) (fun I_92 hR_93 ne_94 => ⟨I_92, L0, rfl, rfl, ?_⟩)
  have hf_95 : Fm (fun c => c = o ∨ c = o + 42 ∨ c = o + 44 ∨ c = o + 45 ∨ c = o + 48 ∨ c = o + 49 ∨ (o + 51 ≤ c ∧ c < o + 57) ∨ c = o + 65 ∨ c = o + 66 ∨ (o + 71 ≤ c ∧ c < o + 75)) I0 I_92 := hf_88.call (M' := fun c => c = (o + 49)) ne_94 (fun c hc => by first | exact hc | (dsimp only at hc ⊢; omega) | omega)
  have t_96 : (I_92 o 163).toInt = (I_85 o 163).toInt := by rw [ne_94 o (by omega)]
  have t_97 : (I_92 o 104).toInt = (I_85 o 104).toInt := by rw [ne_94 o (by omega)]
  refine y_copyL hok (fun _ _ => waModel_159 hw) (fun _ _ => waModel_101 hw) (by decide) (by omega) (by omega) (fun L_98 => ⟨I_92, L_98, rfl, rfl, ?_⟩)
  have l_99 : (1440 : Int32).toInt = 1440 := rfl
  refine y_copy (R := R) hok (fun _ _ => waModel_153 hw) (fun _ _ => waModel_129 hw) (by decide) (by omega) (by omega) (by omega) hR_93 (fun j k => by rw [ra.eq 92 (by decide) j (Or.inl rfl), ra.eq 71 (by decide) k (Or.inl rfl)]; exact ⟨Int.le_refl _, Int.le_refl _⟩) (fun I_100 hR_101 ne_102 => ⟨I_100, L_98, rfl, rfl, ?_⟩)
  have hf_103 : Fm (fun c => c = o ∨ c = o + 42 ∨ c = o + 44 ∨ c = o + 45 ∨ c = o + 48 ∨ c = o + 49 ∨ (o + 51 ≤ c ∧ c < o + 57) ∨ c = o + 65 ∨ c = o + 66 ∨ (o + 71 ≤ c ∧ c < o + 75)) I0 I_100 := hf_95.call (M' := fun c => c = (o + 71)) ne_102 (fun c hc => by first | exact hc | (dsimp only at hc ⊢; omega) | omega)
  have t_104 : (I_100 o 163).toInt = (I_92 o 163).toInt := by rw [ne_102 o (by omega)]
  have t_105 : (I_100 o 104).toInt = (I_92 o 104).toInt := by rw [ne_102 o (by omega)]
  refine y_copy (R := R) hok (fun _ _ => waModel_154 hw) (fun _ _ => waModel_130 hw) (by decide) (by omega) (by omega) (by omega) hR_101 (fun j k => by rw [ra.eq 93 (by decide) j (Or.inl rfl), ra.eq 72 (by decide) k (Or.inl rfl)]; exact ⟨Int.le_refl _, Int.le_refl _⟩) (fun I_106 hR_107 ne_108 => ⟨I_106, L_98, rfl, rfl, ?_⟩)
  have hf_109 : Fm (fun c => c = o ∨ c = o + 42 ∨ c = o + 44 ∨ c = o + 45 ∨ c = o + 48 ∨ c = o + 49 ∨ (o + 51 ≤ c ∧ c < o + 57) ∨ c = o + 65 ∨ c = o + 66 ∨ (o + 71 ≤ c ∧ c < o + 75)) I0 I_106 := hf_103.call (M' := fun c => c = (o + 72)) ne_108 (fun c hc => by first | exact hc | (dsimp only at hc ⊢; omega) | omega)
  have t_110 : (I_106 o 163).toInt = (I_100 o 163).toInt := by rw [ne_108 o (by omega)]
  have t_111 : (I_106 o 104).toInt = (I_100 o 104).toInt := by rw [ne_108 o (by omega)]
  have l_112 : (3600 : Int32).toInt = 3600 := rfl
  refine y_copy (R := R) hok (fun _ _ => waModel_155 hw) (fun _ _ => waModel_131 hw) (by decide) (by omega) (by omega) (by omega) hR_107 (fun j k => by rw [ra.eq 94 (by decide) j (Or.inl rfl), ra.eq 73 (by decide) k (Or.inl rfl)]; exact ⟨Int.le_refl _, Int.le_refl _⟩) (fun I_113 hR_114 ne_115 => ⟨I_113, L_98, rfl, rfl, ?_⟩)
  have hf_116 : Fm (fun c => c = o ∨ c = o + 42 ∨ c = o + 44 ∨ c = o + 45 ∨ c = o + 48 ∨ c = o + 49 ∨ (o + 51 ≤ c ∧ c < o + 57) ∨ c = o + 65 ∨ c = o + 66 ∨ (o + 71 ≤ c ∧ c < o + 75)) I0 I_113 := hf_109.call (M' := fun c => c = (o + 73)) ne_115 (fun c hc => by first | exact hc | (dsimp only at hc ⊢; omega) | omega)
  have t_117 : (I_113 o 163).toInt = (I_106 o 163).toInt := by rw [ne_115 o (by omega)]
  have t_118 : (I_113 o 104).toInt = (I_106 o 104).toInt := by rw [ne_115 o (by omega)]
  refine y_copy (R := R) hok (fun _ _ => waModel_156 hw) (fun _ _ => waModel_132 hw) (by decide) (by omega) (by omega) (by omega) hR_114 (fun j k => by rw [ra.eq 95 (by decide) j (Or.inl rfl), ra.eq 74 (by decide) k (Or.inl rfl)]; exact ⟨Int.le_refl _, Int.le_refl _⟩) (fun I_119 hR_120 ne_121 => ⟨I_119, L_98, rfl, rfl, ?_⟩)
  have hf_122 : Fm (fun c => c = o ∨ c = o + 42 ∨ c = o + 44 ∨ c = o + 45 ∨ c = o + 48 ∨ c = o + 49 ∨ (o + 51 ≤ c ∧ c < o + 57) ∨ c = o + 65 ∨ c = o + 66 ∨ (o + 71 ≤ c ∧ c < o + 75)) I0 I_119 := hf_116.call (M' := fun c => c = (o + 74)) ne_121 (fun c hc => by first | exact hc | (dsimp only at hc ⊢; omega) | omega)
  have t_123 : (I_119 o 163).toInt = (I_113 o 163).toInt := by rw [ne_121 o (by omega)]
  have t_124 : (I_119 o 104).toInt = (I_113 o 104).toInt := by rw [ne_121 o (by omega)]
  refine y_copyL hok (fun _ _ => waModel_160 hw) (fun _ _ => waModel_133 hw) (by decide) (by omega) (by omega) (fun L_125 => ⟨I_119, L_125, rfl, rfl, ?_⟩)
  refine y_copyL hok (fun _ _ => waModel_161 hw) (fun _ _ => waModel_134 hw) (by decide) (by omega) (by omega) (fun L_126 => ⟨I_119, L_126, rfl, rfl, ?_⟩)
  have l_127 : (0 : Int32).toInt = 0 := rfl
  refine fun L_128 e_129 => ?_
  have l_130 : (1 : Int32).toInt = 1 := rfl
  refine fun L_131 e_132 => ?_
  have l_133 : (2 : Int32).toInt = 2 := rfl
  refine fun L_134 e_135 => ?_
  refine fun L_136 e_137 => ?_
  have l_138 : (4 : Int32).toInt = 4 := rfl
  refine fun L_139 e_140 => ?_
  refine fun L_141 e_142 => ?_
  refine fun L_143 e_144 => ?_
  have l_145 : (7 : Int32).toInt = 7 := rfl
  refine fun L_146 e_147 => ?_
  exact (hp _ _ hR_120 hf_122 )
theorem y_Model_restore {D : va_G} {cA : FieldType → ClassId} {b : Nat} {E : State → Prop} {R : qRg} {o n : Nat} {sh : Nat → qC} {Rf : Nat → Nat → Option Nat} {I0 : Nat → Nat → Int32} {L0 : Nat → Nat → Int64} {post : Option Value → qS → Prop} (hok : q_ok (qGG D cA b E)) (hw : WfModel (qGG D cA b E) n sh Rf o) (ra : RAModel R o) (hz114 : R.2 114 = true) (hR : RI R I0) (hp : ∀ (I' : Nat → Nat → Int32) (L' : Nat → Nat → Int64), RI R I' → Fm (fun c => c = o ∨ c = o + 42 ∨ c = o + 44 ∨ c = o + 45 ∨ c = o + 48 ∨ c = o + 49 ∨ (o + 51 ≤ c ∧ c < o + 57) ∨ c = o + 65 ∨ c = o + 66 ∨ (o + 71 ≤ c ∧ c < o + 75)) I0 I' → Kp wModel_restore I0 I' o → post none (n, sh, Rf, I', L')) : Ev (qGG D cA b E) mModel_restore 1 (0, 0) 0 (lv_args 0 [.ref o]) [] (n, sh, Rf, I0, L0) post :=
  yc_Model_restore (R := fzR R I0 o wModel_restore) hok hw (fzA ra hR _) (fzT hz114 rfl) fzZ (fzI hR) (fzI hR) (fun I' L' h1 h2  => hp I' L' (fzB hR h1) h2 (fzP h1) )
def wModel_feed : Nat → Bool := fun j => Nat.beq j 12 || false
set_option maxHeartbeats 4000000 in
set_option maxRecDepth 20000 in
theorem yModel_feed_18 {D : va_G} {cA : FieldType → ClassId} {b : Nat} {E : State → Prop} {R : qRg} {o n : Nat} {sh : Nat → qC} {Rf : Nat → Nat → Option Nat} {I0 : Nat → Nat → Int32} {L0 : Nat → Nat → Int64} {post : Option Value → qS → Prop} {p1 : Int32} {p2 : Int32} {p3 : Int32} {p4 : Int32} {p5 : Int32} (hok : q_ok (qGG D cA b E)) (hw : WfModel (qGG D cA b E) n sh Rf o) (ra : RAModel R o) (hz12 : R.2 12 = true) (hZ : Fz R I0 o wModel_feed) (hR0 : RI R I0) (hp : ∀ (r : Int32) (I' : Nat → Nat → Int32) (L' : Nat → Nat → Int64), RI R I' → Fm (fun c => c = o ∨ c = o + 1) I0 I' → post (some (.int r)) (n, sh, Rf, I', L')) : ∀ (k : Nat) {x1 : Int32} {x2 : Int32} {x3 : Int32} {x4 : Int32} {x5 : Int32} {x6 : Int32} {I : Nat → Nat → Int32} {L : Nat → Nat → Int64}, RI R I → Fm (fun c => c = o ∨ c = o + 1) I0 I → ((0 : Int) ≤ x6.toInt ∧ x6.toInt ≤ 20) → ((I o 2).toInt ≤ 1580) → (20 - x6.toInt).toNat < k → Ev (qGG D cA b E) mModel_feed 0 (0, 0) 18 [(0, .ref o), (1, .int x1), (2, .int x2), (3, .int x3), (4, .int x4), (5, .int x5), (6, .int x6)] [] (n, sh, Rf, I, L) post := by
  intro k
  induction k with
  | zero =>
    intro x1 x2 x3 x4 x5 x6 I L hR hf hi0 hi1 hm
    exact absurd hm (Nat.not_lt_zero _)
  | succ k ih =>
    intro x1 x2 x3 x4 x5 x6 I L hR hf hi0 hi1 hm
    have g_1 : (0 : Int) ≤ (I o 2).toInt ∧ (I o 2).toInt ≤ 1600 := hR.at0 ra 2 (by decide)
    have g_2 : (0 : Int) ≤ (I0 o 2).toInt ∧ (I0 o 2).toInt ≤ 1600 := hR0.at0 ra 2 (by decide)
    refine sModel_feed_18 o n sh Rf I L post x1 x2 x3 x4 x5 x6 hok hw ?_
    unfold fModel_feed_18
    have l_3 : (20 : Int32).toInt = 20 := rfl
    refine ⟨fun c_4 => ?_, fun c_4 => ?_⟩
    · have d_5 := iLe c_4
      have g_6 : (0 : Int) ≤ (I o 2).toInt ∧ (I o 2).toInt ≤ 1600 := hR.at0 ra 2 (by decide)
      have a_7 : ((I o 2) + 20).toInt = (I o 2).toInt + (20 : Int32).toInt := tAdd (by omega) (by omega)
      refine fun I_8 e_9 => ?_
      have hR_10 : RI R I_8 := hR.up0 (k := 2) ra (by decide) (Or.inr hz12) e_9 (show (0 : Int) ≤ ((I o 2) + 20).toInt by omega) (show ((I o 2) + 20).toInt ≤ (1600 : Int) by omega)
      have hf_11 : Fm (fun c => c = o ∨ c = o + 1) I0 I_8 := hf.set (by first | rfl | omega | (dsimp only; omega)) e_9
      have t_12 : (I_8 o 2).toInt = ((I o 2) + 20).toInt := by rw [← e_9, q_u_at]
      have g_13 : (0 : Int) ≤ (I_8 o 2).toInt ∧ (I_8 o 2).toInt ≤ 1600 := hR_10.at0 ra 2 (by decide)
      exact (hp _ _ _ hR_10 hf_11 )
    · have d_14 := iNle c_4
      have l_15 : (4 : Int32).toInt = 4 := rfl
      refine ⟨fun c_16 => ?_, fun c_16 => ?_⟩
      · have d_17 := iLe c_16
        have l_18 : (8 : Int32).toInt = 8 := rfl
        refine ⟨fun c_19 => ?_, fun c_19 => ?_⟩
        · have d_20 := iLe c_19
          have l_21 : (12 : Int32).toInt = 12 := rfl
          refine ⟨fun c_22 => ?_, fun c_22 => ?_⟩
          · have d_23 := iLe c_22
            have l_24 : (16 : Int32).toInt = 16 := rfl
            refine ⟨fun c_25 => ?_, fun c_25 => ?_⟩
            · have d_26 := iLe c_25
              unfold fModel_feed_71
              have g_27 : (0 : Int) ≤ (I o 2).toInt ∧ (I o 2).toInt ≤ 1600 := hR.at0 ra 2 (by decide)
              have a_28 : ((I o 2) + x6).toInt = (I o 2).toInt + x6.toInt := tAdd (by omega) (by omega)
              refine ⟨tIn (by omega) (by omega), fun I_29 e_30 => ?_⟩
              have hR_31 : RI R I_29 := hR.up ra 1 (by decide) (Or.inl rfl) e_30 (i_lo _) (i_hi _)
              have hf_32 : Fm (fun c => c = o ∨ c = o + 1) I0 I_29 := hf.set (by first | rfl | omega | (dsimp only; omega)) e_30
              have t_33 : (I_29 o 2).toInt = (I o 2).toInt := by rw [← e_30, q_u_ne (by omega)]
              have a_35 : (x6 + Int32.ofInt 1).toInt = x6.toInt + (1) := tIc (by omega) (by omega) (by decide) (by decide)
              generalize ez_34 : (x6 + Int32.ofInt 1) = z_34 at a_35 ⊢
              exact ih hR_31 hf_32 (by first | omega | (intro h; omega) | exact Or.inl rfl | exact Or.inr rfl) (by first | omega | (intro h; omega) | exact Or.inl rfl | exact Or.inr rfl) (by omega)
            · have d_36 := iNle c_25
              unfold fModel_feed_71
              have g_37 : (0 : Int) ≤ (I o 2).toInt ∧ (I o 2).toInt ≤ 1600 := hR.at0 ra 2 (by decide)
              have a_38 : ((I o 2) + x6).toInt = (I o 2).toInt + x6.toInt := tAdd (by omega) (by omega)
              refine ⟨tIn (by omega) (by omega), fun I_39 e_40 => ?_⟩
              have hR_41 : RI R I_39 := hR.up ra 1 (by decide) (Or.inl rfl) e_40 (i_lo _) (i_hi _)
              have hf_42 : Fm (fun c => c = o ∨ c = o + 1) I0 I_39 := hf.set (by first | rfl | omega | (dsimp only; omega)) e_40
              have t_43 : (I_39 o 2).toInt = (I o 2).toInt := by rw [← e_40, q_u_ne (by omega)]
              have a_45 : (x6 + Int32.ofInt 1).toInt = x6.toInt + (1) := tIc (by omega) (by omega) (by decide) (by decide)
              generalize ez_44 : (x6 + Int32.ofInt 1) = z_44 at a_45 ⊢
              exact ih hR_41 hf_42 (by first | omega | (intro h; omega) | exact Or.inl rfl | exact Or.inr rfl) (by first | omega | (intro h; omega) | exact Or.inl rfl | exact Or.inr rfl) (by omega)
          · have d_46 := iNle c_22
            unfold fModel_feed_71
            have g_47 : (0 : Int) ≤ (I o 2).toInt ∧ (I o 2).toInt ≤ 1600 := hR.at0 ra 2 (by decide)
            have a_48 : ((I o 2) + x6).toInt = (I o 2).toInt + x6.toInt := tAdd (by omega) (by omega)
            refine ⟨tIn (by omega) (by omega), fun I_49 e_50 => ?_⟩
            have hR_51 : RI R I_49 := hR.up ra 1 (by decide) (Or.inl rfl) e_50 (i_lo _) (i_hi _)
            have hf_52 : Fm (fun c => c = o ∨ c = o + 1) I0 I_49 := hf.set (by first | rfl | omega | (dsimp only; omega)) e_50
            have t_53 : (I_49 o 2).toInt = (I o 2).toInt := by rw [← e_50, q_u_ne (by omega)]
            have a_55 : (x6 + Int32.ofInt 1).toInt = x6.toInt + (1) := tIc (by omega) (by omega) (by decide) (by decide)
            generalize ez_54 : (x6 + Int32.ofInt 1) = z_54 at a_55 ⊢
            exact ih hR_51 hf_52 (by first | omega | (intro h; omega) | exact Or.inl rfl | exact Or.inr rfl) (by first | omega | (intro h; omega) | exact Or.inl rfl | exact Or.inr rfl) (by omega)
        · have d_56 := iNle c_19
          unfold fModel_feed_71
          have g_57 : (0 : Int) ≤ (I o 2).toInt ∧ (I o 2).toInt ≤ 1600 := hR.at0 ra 2 (by decide)
          have a_58 : ((I o 2) + x6).toInt = (I o 2).toInt + x6.toInt := tAdd (by omega) (by omega)
          refine ⟨tIn (by omega) (by omega), fun I_59 e_60 => ?_⟩
          have hR_61 : RI R I_59 := hR.up ra 1 (by decide) (Or.inl rfl) e_60 (i_lo _) (i_hi _)
          have hf_62 : Fm (fun c => c = o ∨ c = o + 1) I0 I_59 := hf.set (by first | rfl | omega | (dsimp only; omega)) e_60
          have t_63 : (I_59 o 2).toInt = (I o 2).toInt := by rw [← e_60, q_u_ne (by omega)]
          have a_65 : (x6 + Int32.ofInt 1).toInt = x6.toInt + (1) := tIc (by omega) (by omega) (by decide) (by decide)
          generalize ez_64 : (x6 + Int32.ofInt 1) = z_64 at a_65 ⊢
          exact ih hR_61 hf_62 (by first | omega | (intro h; omega) | exact Or.inl rfl | exact Or.inr rfl) (by first | omega | (intro h; omega) | exact Or.inl rfl | exact Or.inr rfl) (by omega)
      · have d_66 := iNle c_16
        unfold fModel_feed_71
        have g_67 : (0 : Int) ≤ (I o 2).toInt ∧ (I o 2).toInt ≤ 1600 := hR.at0 ra 2 (by decide)
        have a_68 : ((I o 2) + x6).toInt = (I o 2).toInt + x6.toInt := tAdd (by omega) (by omega)
        refine ⟨tIn (by omega) (by omega), fun I_69 e_70 => ?_⟩
        have hR_71 : RI R I_69 := hR.up ra 1 (by decide) (Or.inl rfl) e_70 (i_lo _) (i_hi _)
        have hf_72 : Fm (fun c => c = o ∨ c = o + 1) I0 I_69 := hf.set (by first | rfl | omega | (dsimp only; omega)) e_70
        have t_73 : (I_69 o 2).toInt = (I o 2).toInt := by rw [← e_70, q_u_ne (by omega)]
        have a_75 : (x6 + Int32.ofInt 1).toInt = x6.toInt + (1) := tIc (by omega) (by omega) (by decide) (by decide)
        generalize ez_74 : (x6 + Int32.ofInt 1) = z_74 at a_75 ⊢
        exact ih hR_71 hf_72 (by first | omega | (intro h; omega) | exact Or.inl rfl | exact Or.inr rfl) (by first | omega | (intro h; omega) | exact Or.inl rfl | exact Or.inr rfl) (by omega)
set_option maxHeartbeats 4000000 in
set_option maxRecDepth 20000 in
theorem yc_Model_feed {D : va_G} {cA : FieldType → ClassId} {b : Nat} {E : State → Prop} {R : qRg} {o n : Nat} {sh : Nat → qC} {Rf : Nat → Nat → Option Nat} {I0 : Nat → Nat → Int32} {L0 : Nat → Nat → Int64} {post : Option Value → qS → Prop} {p1 : Int32} {p2 : Int32} {p3 : Int32} {p4 : Int32} {p5 : Int32} (hok : q_ok (qGG D cA b E)) (hw : WfModel (qGG D cA b E) n sh Rf o) (ra : RAModel R o) (hz12 : R.2 12 = true) (hZ : Fz R I0 o wModel_feed) (hR0 : RI R I0) (hR : RI R I0) (hp : ∀ (r : Int32) (I' : Nat → Nat → Int32) (L' : Nat → Nat → Int64), RI R I' → Fm (fun c => c = o ∨ c = o + 1) I0 I' → post (some (.int r)) (n, sh, Rf, I', L')) : Ev (qGG D cA b E) mModel_feed 0 (0, 0) 0 (lv_args 0 [.ref o, .int p1, .int p2, .int p3, .int p4, .int p5]) [] (n, sh, Rf, I0, L0) post := by
  have hf : Fm (fun c => c = o ∨ c = o + 1) I0 I0 := Fm.rf
  have g_76 : (0 : Int) ≤ (I0 o 2).toInt ∧ (I0 o 2).toInt ≤ 1600 := hR.at0 ra 2 (by decide)
  refine sModel_feed_0 o n sh Rf I0 L0 post p1 p2 p3 p4 p5 hok hw ?_
  unfold fModel_feed_0
  have g_77 : (0 : Int) ≤ (I0 o 2).toInt ∧ (I0 o 2).toInt ≤ 1600 := hR.at0 ra 2 (by decide)
  have l_78 : (20 : Int32).toInt = 20 := rfl
  have a_79 : ((I0 o 2) + 20).toInt = (I0 o 2).toInt + (20 : Int32).toInt := tAdd (by omega) (by omega)
  have l_80 : (1600 : Int32).toInt = 1600 := rfl
  refine ⟨fun c_81 => ?_, fun c_81 => ?_⟩
  · have d_82 := iLe c_81
    have l_83 : (0 : Int32).toInt = 0 := rfl
    exact yModel_feed_18 (I0 := I0) (L0 := L0) (p1 := p1) (p2 := p2) (p3 := p3) (p4 := p4) (p5 := p5) hok hw ra hz12 hZ hR0 hp  _ hR hf (by first | omega | (intro h; omega) | exact Or.inl rfl | exact Or.inr rfl) (by first | omega | (intro h; omega) | exact Or.inl rfl | exact Or.inr rfl) (Nat.lt_succ_self _)
  · have d_84 := iNle c_81
    have l_85 : (-1 : Int32).toInt = -1 := rfl
    exact (hp _ _ _ hR hf )
theorem y_Model_feed {D : va_G} {cA : FieldType → ClassId} {b : Nat} {E : State → Prop} {R : qRg} {o n : Nat} {sh : Nat → qC} {Rf : Nat → Nat → Option Nat} {I0 : Nat → Nat → Int32} {L0 : Nat → Nat → Int64} {post : Option Value → qS → Prop} {p1 : Int32} {p2 : Int32} {p3 : Int32} {p4 : Int32} {p5 : Int32} (hok : q_ok (qGG D cA b E)) (hw : WfModel (qGG D cA b E) n sh Rf o) (ra : RAModel R o) (hz12 : R.2 12 = true) (hR : RI R I0) (hp : ∀ (r : Int32) (I' : Nat → Nat → Int32) (L' : Nat → Nat → Int64), RI R I' → Fm (fun c => c = o ∨ c = o + 1) I0 I' → Kp wModel_feed I0 I' o → post (some (.int r)) (n, sh, Rf, I', L')) : Ev (qGG D cA b E) mModel_feed 0 (0, 0) 0 (lv_args 0 [.ref o, .int p1, .int p2, .int p3, .int p4, .int p5]) [] (n, sh, Rf, I0, L0) post :=
  yc_Model_feed (R := fzR R I0 o wModel_feed) hok hw (fzA ra hR _) (fzT hz12 rfl) fzZ (fzI hR) (fzI hR) (fun r I' L' h1 h2  => hp r I' L' (fzB hR h1) h2 (fzP h1) )
def wModel_forge : Nat → Bool := fun j => false
set_option maxHeartbeats 4000000 in
set_option maxRecDepth 20000 in
theorem yModel_forge_2 {D : va_G} {cA : FieldType → ClassId} {b : Nat} {E : State → Prop} {R : qRg} {o n : Nat} {sh : Nat → qC} {Rf : Nat → Nat → Option Nat} {I0 : Nat → Nat → Int32} {L0 : Nat → Nat → Int64} {post : Option Value → qS → Prop} {p1 : Int32} (hok : q_ok (qGG D cA b E)) (hw : WfModel (qGG D cA b E) n sh Rf o) (ra : RAModel R o) (hZ : Fz R I0 o wModel_forge) (hR0 : RI R I0) (hq0 : (0 : Int) ≤ p1.toInt ∧ p1.toInt ≤ 1999) (hp : ∀ (I' : Nat → Nat → Int32) (L' : Nat → Nat → Int64), RI R I' → Fm (fun c => c = o + 66) I0 I' → post none (n, sh, Rf, I', L')) : ∀ (k : Nat) {x1 : Int32} {x2 : Int32} {I : Nat → Nat → Int32} {L : Nat → Nat → Int64}, RI R I → Fm (fun c => c = o + 66) I0 I → ((0 : Int) ≤ x2.toInt ∧ x2.toInt ≤ 40) → ((0 : Int) ≤ x1.toInt ∧ x1.toInt ≤ 1999) → (40 - x2.toInt).toNat < k → Ev (qGG D cA b E) mModel_forge 1 (0, 0) 2 [(0, .ref o), (1, .int x1), (2, .int x2)] [] (n, sh, Rf, I, L) post := by
  intro k
  induction k with
  | zero =>
    intro x1 x2 I L hR hf hi0 hi1 hm
    exact absurd hm (Nat.not_lt_zero _)
  | succ k ih =>
    intro x1 x2 I L hR hf hi0 hi1 hm
    refine sModel_forge_2 o n sh Rf I L post x1 x2 hok hw ?_
    unfold fModel_forge_2
    have g_1 : (0 : Int) ≤ (I o 67).toInt ∧ (I o 67).toInt ≤ 40 := hR.at0 ra 67 (by decide)
    refine ⟨fun c_2 => ?_, fun c_2 => ?_⟩
    · have d_3 := iLe c_2
      exact (hp _ _ hR hf )
    · have d_4 := iNle c_2
      have l_5 : (1 : Int32).toInt = 1 := rfl
      refine y_Model_counts hok hw ra (by first | omega | (intro h; omega) | exact Or.inl rfl | exact Or.inr rfl) hR (fun r_6 u_7 u_8 => ⟨r_6, I, L, rfl, rfl, ?_⟩)
      have b_9 : 0 ≤ r_6.toInt ∧ r_6.toInt ≤ 1 := u_7.rg
      have l_10 : (0 : Int32).toInt = 0 := rfl
      refine ⟨fun c_11 => ?_, fun c_11 => ?_⟩
      · have d_12 := iEq c_11
        unfold fModel_forge_58
        have a_14 : (x2 + Int32.ofInt 1).toInt = x2.toInt + (1) := tIc (by omega) (by omega) (by decide) (by decide)
        generalize ez_13 : (x2 + Int32.ofInt 1) = z_13 at a_14 ⊢
        exact ih hR hf (by first | omega | (intro h; omega) | exact Or.inl rfl | exact Or.inr rfl) (by first | omega | (intro h; omega) | exact Or.inl rfl | exact Or.inr rfl) (by omega)
      · have d_15 := iNe c_11
        refine ⟨tIn (by omega) (by omega), ?_⟩
        refine ⟨fun c_16 => ?_, fun c_16 => ?_⟩
        · have d_17 := iNe c_16
          unfold fModel_forge_58
          have a_19 : (x2 + Int32.ofInt 1).toInt = x2.toInt + (1) := tIc (by omega) (by omega) (by decide) (by decide)
          generalize ez_18 : (x2 + Int32.ofInt 1) = z_18 at a_19 ⊢
          exact ih hR hf (by first | omega | (intro h; omega) | exact Or.inl rfl | exact Or.inr rfl) (by first | omega | (intro h; omega) | exact Or.inl rfl | exact Or.inr rfl) (by omega)
        · have d_20 := iEq c_16
          refine ⟨tIn (by omega) (by omega), ?_⟩
          have g_21 : (0 : Int) ≤ (I o 57).toInt ∧ (I o 57).toInt ≤ 240 := hR.at0 ra 57 (by decide)
          refine ⟨fun c_22 => ?_, fun c_22 => ?_⟩
          · have d_23 := iLt c_22
            unfold fModel_forge_58
            have a_25 : (x2 + Int32.ofInt 1).toInt = x2.toInt + (1) := tIc (by omega) (by omega) (by decide) (by decide)
            generalize ez_24 : (x2 + Int32.ofInt 1) = z_24 at a_25 ⊢
            exact ih hR hf (by first | omega | (intro h; omega) | exact Or.inl rfl | exact Or.inr rfl) (by first | omega | (intro h; omega) | exact Or.inl rfl | exact Or.inr rfl) (by omega)
          · have d_26 := iNlt c_22
            refine ⟨tIn (by omega) (by omega), ?_⟩
            refine ⟨fun c_27 => ?_, fun c_27 => ?_⟩
            · have d_28 := iLe c_27
              unfold fModel_forge_58
              have a_30 : (x2 + Int32.ofInt 1).toInt = x2.toInt + (1) := tIc (by omega) (by omega) (by decide) (by decide)
              generalize ez_29 : (x2 + Int32.ofInt 1) = z_29 at a_30 ⊢
              exact ih hR hf (by first | omega | (intro h; omega) | exact Or.inl rfl | exact Or.inr rfl) (by first | omega | (intro h; omega) | exact Or.inl rfl | exact Or.inr rfl) (by omega)
            · have d_31 := iNle c_27
              refine ⟨tIn (by omega) (by omega), fun I_32 e_33 => ?_⟩
              have hR_34 : RI R I_32 := hR.up ra 66 (by decide) (Or.inl rfl) e_33 (i_lo _) (i_hi _)
              have hf_35 : Fm (fun c => c = o + 66) I0 I_32 := hf.set (by first | rfl | omega | (dsimp only; omega)) e_33
              have t_36 : (I_32 o 67).toInt = (I o 67).toInt := by rw [← e_33, q_u_ne (by omega)]
              have t_37 : (I_32 o 57).toInt = (I o 57).toInt := by rw [← e_33, q_u_ne (by omega)]
              unfold fModel_forge_58
              have a_39 : (x2 + Int32.ofInt 1).toInt = x2.toInt + (1) := tIc (by omega) (by omega) (by decide) (by decide)
              generalize ez_38 : (x2 + Int32.ofInt 1) = z_38 at a_39 ⊢
              exact ih hR_34 hf_35 (by first | omega | (intro h; omega) | exact Or.inl rfl | exact Or.inr rfl) (by first | omega | (intro h; omega) | exact Or.inl rfl | exact Or.inr rfl) (by omega)
set_option maxHeartbeats 4000000 in
set_option maxRecDepth 20000 in
theorem yc_Model_forge {D : va_G} {cA : FieldType → ClassId} {b : Nat} {E : State → Prop} {R : qRg} {o n : Nat} {sh : Nat → qC} {Rf : Nat → Nat → Option Nat} {I0 : Nat → Nat → Int32} {L0 : Nat → Nat → Int64} {post : Option Value → qS → Prop} {p1 : Int32} (hok : q_ok (qGG D cA b E)) (hw : WfModel (qGG D cA b E) n sh Rf o) (ra : RAModel R o) (hZ : Fz R I0 o wModel_forge) (hR0 : RI R I0) (hq0 : (0 : Int) ≤ p1.toInt ∧ p1.toInt ≤ 1999) (hR : RI R I0) (hp : ∀ (I' : Nat → Nat → Int32) (L' : Nat → Nat → Int64), RI R I' → Fm (fun c => c = o + 66) I0 I' → post none (n, sh, Rf, I', L')) : Ev (qGG D cA b E) mModel_forge 1 (0, 0) 0 (lv_args 0 [.ref o, .int p1]) [] (n, sh, Rf, I0, L0) post := by
  have hf : Fm (fun c => c = o + 66) I0 I0 := Fm.rf
  refine sModel_forge_0 o n sh Rf I0 L0 post p1 hok hw ?_
  unfold fModel_forge_0
  have l_40 : (0 : Int32).toInt = 0 := rfl
  exact yModel_forge_2 (I0 := I0) (L0 := L0) (p1 := p1) hok hw ra hZ hR0 hq0 hp  _ hR hf (by first | omega | (intro h; omega) | exact Or.inl rfl | exact Or.inr rfl) (by first | omega | (intro h; omega) | exact Or.inl rfl | exact Or.inr rfl) (Nat.lt_succ_self _)
theorem y_Model_forge {D : va_G} {cA : FieldType → ClassId} {b : Nat} {E : State → Prop} {R : qRg} {o n : Nat} {sh : Nat → qC} {Rf : Nat → Nat → Option Nat} {I0 : Nat → Nat → Int32} {L0 : Nat → Nat → Int64} {post : Option Value → qS → Prop} {p1 : Int32} (hok : q_ok (qGG D cA b E)) (hw : WfModel (qGG D cA b E) n sh Rf o) (ra : RAModel R o) (hq0 : (0 : Int) ≤ p1.toInt ∧ p1.toInt ≤ 1999) (hR : RI R I0) (hp : ∀ (I' : Nat → Nat → Int32) (L' : Nat → Nat → Int64), RI R I' → Fm (fun c => c = o + 66) I0 I' → Kp wModel_forge I0 I' o → post none (n, sh, Rf, I', L')) : Ev (qGG D cA b E) mModel_forge 1 (0, 0) 0 (lv_args 0 [.ref o, .int p1]) [] (n, sh, Rf, I0, L0) post :=
  yc_Model_forge (R := fzR R I0 o wModel_forge) hok hw (fzA ra hR _) fzZ (fzI hR) hq0 (fzI hR) (fun I' L' h1 h2  => hp I' L' (fzB hR h1) h2 (fzP h1) )
def wModel_fillTowns : Nat → Bool := fun j => Nat.beq j 121 || false
set_option maxHeartbeats 4000000 in
set_option maxRecDepth 20000 in
theorem yModel_fillTowns_2 {D : va_G} {cA : FieldType → ClassId} {b : Nat} {E : State → Prop} {R : qRg} {o n : Nat} {sh : Nat → qC} {Rf : Nat → Nat → Option Nat} {I0 : Nat → Nat → Int32} {L0 : Nat → Nat → Int64} {post : Option Value → qS → Prop} (hok : q_ok (qGG D cA b E)) (hw : WfModel (qGG D cA b E) n sh Rf o) (ra : RAModel R o) (hz121 : R.2 121 = true) (hZ : Fz R I0 o wModel_fillTowns) (hR0 : RI R I0) (hp : ∀ (I' : Nat → Nat → Int32) (L' : Nat → Nat → Int64), RI R I' → Fm (fun c => c = o ∨ c = o + 46) I0 I' → post none (n, sh, Rf, I', L')) : ∀ (k : Nat) {x1 : Int32} {I : Nat → Nat → Int32} {L : Nat → Nat → Int64}, RI R I → Fm (fun c => c = o ∨ c = o + 46) I0 I → ((0 : Int) ≤ x1.toInt ∧ x1.toInt ≤ 5) → (5 - x1.toInt).toNat < k → Ev (qGG D cA b E) mModel_fillTowns 1 (0, 0) 2 [(0, .ref o), (1, .int x1)] [] (n, sh, Rf, I, L) post := by
  intro k
  induction k with
  | zero =>
    intro x1 I L hR hf hi0 hm
    exact absurd hm (Nat.not_lt_zero _)
  | succ k ih =>
    intro x1 I L hR hf hi0 hm
    refine sModel_fillTowns_2 o n sh Rf I L post x1 hok hw ?_
    unfold fModel_fillTowns_2
    refine y_Model_towns hok hw ra hR (fun r_1 u_2 => ⟨r_1, I, L, rfl, rfl, ?_⟩)
    refine ⟨fun c_3 => ?_, fun c_3 => ?_⟩
    · have d_4 := iLe c_3
      refine fun I_5 e_6 => ?_
      have hR_7 : RI R I_5 := hR.up0 (k := 111) ra (by decide) (Or.inr hz121) e_6 (i_lo _) (i_hi _)
      have hf_8 : Fm (fun c => c = o ∨ c = o + 46) I0 I_5 := hf.set (by first | rfl | omega | (dsimp only; omega)) e_6
      exact (hp _ _ hR_7 hf_8 )
    · have d_9 := iNle c_3
      have g_10 : (0 : Int) ≤ (I o 34).toInt ∧ (I o 34).toInt ≤ 1 := hR.at0 ra 34 (by decide)
      have l_11 : (5 : Int32).toInt = 5 := rfl
      have a_12 : (5 * (I o 34)).toInt = 5 * (I o 34).toInt := tMulL rfl (by omega) (by omega)
      have a_13 : ((5 * (I o 34)) + x1).toInt = (5 * (I o 34)).toInt + x1.toInt := tAdd (by omega) (by omega)
      refine ⟨tIn (by omega) (by omega), ?_⟩
      refine ⟨tIn (by omega) (by omega), fun I_14 e_15 => ?_⟩
      have hR_16 : RI R I_14 := hR.up ra 46 (by decide) (Or.inl rfl) e_15 (i_lo _) (i_hi _)
      have hf_17 : Fm (fun c => c = o ∨ c = o + 46) I0 I_14 := hf.set (by first | rfl | omega | (dsimp only; omega)) e_15
      have t_18 : (I_14 o 34).toInt = (I o 34).toInt := by rw [← e_15, q_u_ne (by omega)]
      have a_20 : (x1 + Int32.ofInt 1).toInt = x1.toInt + (1) := tIc (by omega) (by omega) (by decide) (by decide)
      generalize ez_19 : (x1 + Int32.ofInt 1) = z_19 at a_20 ⊢
      exact ih hR_16 hf_17 (by first | omega | (intro h; omega) | exact Or.inl rfl | exact Or.inr rfl) (by omega)
set_option maxHeartbeats 4000000 in
set_option maxRecDepth 20000 in
theorem yc_Model_fillTowns {D : va_G} {cA : FieldType → ClassId} {b : Nat} {E : State → Prop} {R : qRg} {o n : Nat} {sh : Nat → qC} {Rf : Nat → Nat → Option Nat} {I0 : Nat → Nat → Int32} {L0 : Nat → Nat → Int64} {post : Option Value → qS → Prop} (hok : q_ok (qGG D cA b E)) (hw : WfModel (qGG D cA b E) n sh Rf o) (ra : RAModel R o) (hz121 : R.2 121 = true) (hZ : Fz R I0 o wModel_fillTowns) (hR0 : RI R I0) (hR : RI R I0) (hp : ∀ (I' : Nat → Nat → Int32) (L' : Nat → Nat → Int64), RI R I' → Fm (fun c => c = o ∨ c = o + 46) I0 I' → post none (n, sh, Rf, I', L')) : Ev (qGG D cA b E) mModel_fillTowns 1 (0, 0) 0 (lv_args 0 [.ref o]) [] (n, sh, Rf, I0, L0) post := by
  have hf : Fm (fun c => c = o ∨ c = o + 46) I0 I0 := Fm.rf
  refine sModel_fillTowns_0 o n sh Rf I0 L0 post  hok hw ?_
  unfold fModel_fillTowns_0
  have l_21 : (0 : Int32).toInt = 0 := rfl
  exact yModel_fillTowns_2 (I0 := I0) (L0 := L0) hok hw ra hz121 hZ hR0 hp  _ hR hf (by first | omega | (intro h; omega) | exact Or.inl rfl | exact Or.inr rfl) (Nat.lt_succ_self _)
theorem y_Model_fillTowns {D : va_G} {cA : FieldType → ClassId} {b : Nat} {E : State → Prop} {R : qRg} {o n : Nat} {sh : Nat → qC} {Rf : Nat → Nat → Option Nat} {I0 : Nat → Nat → Int32} {L0 : Nat → Nat → Int64} {post : Option Value → qS → Prop} (hok : q_ok (qGG D cA b E)) (hw : WfModel (qGG D cA b E) n sh Rf o) (ra : RAModel R o) (hz121 : R.2 121 = true) (hR : RI R I0) (hp : ∀ (I' : Nat → Nat → Int32) (L' : Nat → Nat → Int64), RI R I' → Fm (fun c => c = o ∨ c = o + 46) I0 I' → Kp wModel_fillTowns I0 I' o → post none (n, sh, Rf, I', L')) : Ev (qGG D cA b E) mModel_fillTowns 1 (0, 0) 0 (lv_args 0 [.ref o]) [] (n, sh, Rf, I0, L0) post :=
  yc_Model_fillTowns (R := fzR R I0 o wModel_fillTowns) hok hw (fzA ra hR _) (fzT hz121 rfl) fzZ (fzI hR) (fzI hR) (fun I' L' h1 h2  => hp I' L' (fzB hR h1) h2 (fzP h1) )
def wModel_weigh : Nat → Bool := fun j => Nat.beq j 132 || Nat.beq j 133 || Nat.beq j 134 || Nat.beq j 135 || Nat.beq j 136 || false
set_option maxHeartbeats 4000000 in
set_option maxRecDepth 20000 in
theorem yc_Model_weigh {D : va_G} {cA : FieldType → ClassId} {b : Nat} {E : State → Prop} {R : qRg} {o n : Nat} {sh : Nat → qC} {Rf : Nat → Nat → Option Nat} {I0 : Nat → Nat → Int32} {L0 : Nat → Nat → Int64} {post : Option Value → qS → Prop} {p1 : Int32} {p2 : Int32} {p3 : Int32} {p4 : Int32} {p5 : Int32} {p6 : Int64} (hok : q_ok (qGG D cA b E)) (hw : WfModel (qGG D cA b E) n sh Rf o) (ra : RAModel R o) (hz132 : R.2 132 = true) (hz133 : R.2 133 = true) (hz134 : R.2 134 = true) (hz135 : R.2 135 = true) (hz136 : R.2 136 = true) (hZ : Fz R I0 o wModel_weigh) (hR0 : RI R I0) (hq0 : (0 : Int) ≤ p1.toInt ∧ p1.toInt ≤ 4) (hq1 : (-1 : Int) ≤ p2.toInt ∧ p2.toInt ≤ 2) (hq2 : (-1 : Int) ≤ p3.toInt ∧ p3.toInt ≤ 4) (hR : RI R I0) (hp : ∀ (I' : Nat → Nat → Int32) (L' : Nat → Nat → Int64), RI R I' → Fm (fun c => c = o) I0 I' → post none (n, sh, Rf, I', L')) : Ev (qGG D cA b E) mModel_weigh 0 (0, 0) 0 (lv_args 0 [.ref o, .int p1, .int p2, .int p3, .int p4, .int p5, .long p6]) [] (n, sh, Rf, I0, L0) post := by
  have hf : Fm (fun c => c = o) I0 I0 := Fm.rf
  refine sModel_weigh_0 o n sh Rf I0 L0 post p1 p2 p3 p4 p5 p6 hok hw ?_
  unfold fModel_weigh_0
  have l_1 : (0 : Int32).toInt = 0 := rfl
  refine ⟨fun c_2 => ?_, fun c_2 => ?_⟩
  · have d_3 := iEq c_2
    exact (hp _ _ hR hf )
  · have d_4 := iNe c_2
    refine ⟨fun c_5 => ?_, fun c_5 => ?_⟩
    · have d_6 := iLt c_5
      refine fun I_7 e_8 => ?_
      have hR_9 : RI R I_7 := hR.up0 (k := 122) ra (by decide) (Or.inr hz132) e_8 (show (0 : Int) ≤ p1.toInt by omega) (show p1.toInt ≤ (4 : Int) by omega)
      have hf_10 : Fm (fun c => c = o) I0 I_7 := hf.set (by first | rfl | omega | (dsimp only; omega)) e_8
      have t_11 : (I_7 o 122).toInt = p1.toInt := by rw [← e_8, q_u_at]
      refine fun I_12 e_13 => ?_
      have hR_14 : RI R I_12 := hR_9.up0 (k := 123) ra (by decide) (Or.inr hz133) e_13 (show (-1 : Int) ≤ p2.toInt by omega) (show p2.toInt ≤ (2 : Int) by omega)
      have hf_15 : Fm (fun c => c = o) I0 I_12 := hf_10.set (by first | rfl | omega | (dsimp only; omega)) e_13
      have t_16 : (I_12 o 122).toInt = (I_7 o 122).toInt := by rw [← e_13, q_u_k (by decide)]
      have t_17 : (I_12 o 123).toInt = p2.toInt := by rw [← e_13, q_u_at]
      refine fun I_18 e_19 => ?_
      have hR_20 : RI R I_18 := hR_14.up0 (k := 124) ra (by decide) (Or.inr hz134) e_19 (show (-1 : Int) ≤ p3.toInt by omega) (show p3.toInt ≤ (4 : Int) by omega)
      have hf_21 : Fm (fun c => c = o) I0 I_18 := hf_15.set (by first | rfl | omega | (dsimp only; omega)) e_19
      have t_22 : (I_18 o 122).toInt = (I_12 o 122).toInt := by rw [← e_19, q_u_k (by decide)]
      have t_23 : (I_18 o 123).toInt = (I_12 o 123).toInt := by rw [← e_19, q_u_k (by decide)]
      have t_24 : (I_18 o 124).toInt = p3.toInt := by rw [← e_19, q_u_at]
      refine fun I_25 e_26 => ?_
      have hR_27 : RI R I_25 := hR_20.up0 (k := 125) ra (by decide) (Or.inr hz135) e_26 (i_lo _) (i_hi _)
      have hf_28 : Fm (fun c => c = o) I0 I_25 := hf_21.set (by first | rfl | omega | (dsimp only; omega)) e_26
      have t_29 : (I_25 o 122).toInt = (I_18 o 122).toInt := by rw [← e_26, q_u_k (by decide)]
      have t_30 : (I_25 o 123).toInt = (I_18 o 123).toInt := by rw [← e_26, q_u_k (by decide)]
      have t_31 : (I_25 o 124).toInt = (I_18 o 124).toInt := by rw [← e_26, q_u_k (by decide)]
      refine fun I_32 e_33 => ?_
      have hR_34 : RI R I_32 := hR_27.up0 (k := 126) ra (by decide) (Or.inr hz136) e_33 (i_lo _) (i_hi _)
      have hf_35 : Fm (fun c => c = o) I0 I_32 := hf_28.set (by first | rfl | omega | (dsimp only; omega)) e_33
      have t_36 : (I_32 o 122).toInt = (I_25 o 122).toInt := by rw [← e_33, q_u_k (by decide)]
      have t_37 : (I_32 o 123).toInt = (I_25 o 123).toInt := by rw [← e_33, q_u_k (by decide)]
      have t_38 : (I_32 o 124).toInt = (I_25 o 124).toInt := by rw [← e_33, q_u_k (by decide)]
      refine fun L_39 e_40 => ?_
      exact (hp _ _ hR_34 hf_35 )
    · have d_41 := iNlt c_5
      exact (hp _ _ hR hf )
theorem y_Model_weigh {D : va_G} {cA : FieldType → ClassId} {b : Nat} {E : State → Prop} {R : qRg} {o n : Nat} {sh : Nat → qC} {Rf : Nat → Nat → Option Nat} {I0 : Nat → Nat → Int32} {L0 : Nat → Nat → Int64} {post : Option Value → qS → Prop} {p1 : Int32} {p2 : Int32} {p3 : Int32} {p4 : Int32} {p5 : Int32} {p6 : Int64} (hok : q_ok (qGG D cA b E)) (hw : WfModel (qGG D cA b E) n sh Rf o) (ra : RAModel R o) (hz132 : R.2 132 = true) (hz133 : R.2 133 = true) (hz134 : R.2 134 = true) (hz135 : R.2 135 = true) (hz136 : R.2 136 = true) (hq0 : (0 : Int) ≤ p1.toInt ∧ p1.toInt ≤ 4) (hq1 : (-1 : Int) ≤ p2.toInt ∧ p2.toInt ≤ 2) (hq2 : (-1 : Int) ≤ p3.toInt ∧ p3.toInt ≤ 4) (hR : RI R I0) (hp : ∀ (I' : Nat → Nat → Int32) (L' : Nat → Nat → Int64), RI R I' → Fm (fun c => c = o) I0 I' → Kp wModel_weigh I0 I' o → post none (n, sh, Rf, I', L')) : Ev (qGG D cA b E) mModel_weigh 0 (0, 0) 0 (lv_args 0 [.ref o, .int p1, .int p2, .int p3, .int p4, .int p5, .long p6]) [] (n, sh, Rf, I0, L0) post :=
  yc_Model_weigh (R := fzR R I0 o wModel_weigh) hok hw (fzA ra hR _) (fzT hz132 rfl) (fzT hz133 rfl) (fzT hz134 rfl) (fzT hz135 rfl) (fzT hz136 rfl) fzZ (fzI hR) hq0 hq1 hq2 (fzI hR) (fun I' L' h1 h2  => hp I' L' (fzB hR h1) h2 (fzP h1) )
set_option maxHeartbeats 4000000 in
set_option maxRecDepth 20000 in
theorem y_Model_two {D : va_G} {cA : FieldType → ClassId} {b : Nat} {E : State → Prop} {R : qRg} {n : Nat} {sh : Nat → qC} {Rf : Nat → Nat → Option Nat} {I0 : Nat → Nat → Int32} {L0 : Nat → Nat → Int64} {post : Option Value → qS → Prop} {p0 : Int32} {p1 : Int32} {p2 : Int32} (hok : q_ok (qGG D cA b E)) (hR : RI R I0) (hp : ∀ (r : Int32) , post (some (.int r)) (n, sh, Rf, I0, L0)) : Ev (qGG D cA b E) mModel_two 0 (0, 0) 0 (lv_args 0 [.int p0, .int p1, .int p2]) [] (n, sh, Rf, I0, L0) post := by
  refine sModel_two_0 n sh Rf I0 L0 post p0 p1 p2 hok  ?_
  unfold fModel_two_0
  have l_2 : (38 : Int32).toInt = 38 := rfl
  refine ⟨fun c_1 => ?_, fun c_1 => ?_⟩
  · have d_3 := iEq c_1
    have l_4 : (0 : Int32).toInt = 0 := rfl
    refine ⟨fun c_5 => ?_, fun c_5 => ?_⟩
    · have d_6 := iEq c_5
      exact (hp _ )
    · have d_7 := iNe c_5
      refine ⟨fun c_8 => ?_, fun c_8 => ?_⟩
      · have d_9 := iEq c_8
        exact (hp _ )
      · have d_10 := iNe c_8
        have l_11 : (1 : Int32).toInt = 1 := rfl
        exact (hp _ )
  have d_12 := iNe c_1
  have l_14 : (39 : Int32).toInt = 39 := rfl
  refine ⟨fun c_13 => ?_, fun c_13 => ?_⟩
  · have d_15 := iEq c_13
    unfold fModel_two_187
    have l_16 : (0 : Int32).toInt = 0 := rfl
    refine ⟨fun c_17 => ?_, fun c_17 => ?_⟩
    · have d_18 := iNe c_17
      unfold fModel_two_195
      have l_19 : (1 : Int32).toInt = 1 := rfl
      exact (hp _ )
    · have d_20 := iEq c_17
      refine ⟨fun c_21 => ?_, fun c_21 => ?_⟩
      · have d_22 := iEq c_21
        exact (hp _ )
      · have d_23 := iNe c_21
        unfold fModel_two_195
        have l_24 : (1 : Int32).toInt = 1 := rfl
        exact (hp _ )
  have d_25 := iNe c_13
  have l_27 : (40 : Int32).toInt = 40 := rfl
  refine ⟨fun c_26 => ?_, fun c_26 => ?_⟩
  · have d_28 := iEq c_26
    unfold fModel_two_187
    have l_29 : (0 : Int32).toInt = 0 := rfl
    refine ⟨fun c_30 => ?_, fun c_30 => ?_⟩
    · have d_31 := iNe c_30
      unfold fModel_two_195
      have l_32 : (1 : Int32).toInt = 1 := rfl
      exact (hp _ )
    · have d_33 := iEq c_30
      refine ⟨fun c_34 => ?_, fun c_34 => ?_⟩
      · have d_35 := iEq c_34
        exact (hp _ )
      · have d_36 := iNe c_34
        unfold fModel_two_195
        have l_37 : (1 : Int32).toInt = 1 := rfl
        exact (hp _ )
  have d_38 := iNe c_26
  have l_40 : (41 : Int32).toInt = 41 := rfl
  refine ⟨fun c_39 => ?_, fun c_39 => ?_⟩
  · have d_41 := iEq c_39
    unfold fModel_two_187
    have l_42 : (0 : Int32).toInt = 0 := rfl
    refine ⟨fun c_43 => ?_, fun c_43 => ?_⟩
    · have d_44 := iNe c_43
      unfold fModel_two_195
      have l_45 : (1 : Int32).toInt = 1 := rfl
      exact (hp _ )
    · have d_46 := iEq c_43
      refine ⟨fun c_47 => ?_, fun c_47 => ?_⟩
      · have d_48 := iEq c_47
        exact (hp _ )
      · have d_49 := iNe c_47
        unfold fModel_two_195
        have l_50 : (1 : Int32).toInt = 1 := rfl
        exact (hp _ )
  have d_51 := iNe c_39
  have l_53 : (42 : Int32).toInt = 42 := rfl
  refine ⟨fun c_52 => ?_, fun c_52 => ?_⟩
  · have d_54 := iEq c_52
    exact (hp _ )
  have d_55 := iNe c_52
  have l_57 : (43 : Int32).toInt = 43 := rfl
  refine ⟨fun c_56 => ?_, fun c_56 => ?_⟩
  · have d_58 := iEq c_56
    exact (hp _ )
  have d_59 := iNe c_56
  have l_61 : (44 : Int32).toInt = 44 := rfl
  refine ⟨fun c_60 => ?_, fun c_60 => ?_⟩
  · have d_62 := iEq c_60
    unfold fModel_two_187
    have l_63 : (0 : Int32).toInt = 0 := rfl
    refine ⟨fun c_64 => ?_, fun c_64 => ?_⟩
    · have d_65 := iNe c_64
      unfold fModel_two_195
      have l_66 : (1 : Int32).toInt = 1 := rfl
      exact (hp _ )
    · have d_67 := iEq c_64
      refine ⟨fun c_68 => ?_, fun c_68 => ?_⟩
      · have d_69 := iEq c_68
        exact (hp _ )
      · have d_70 := iNe c_68
        unfold fModel_two_195
        have l_71 : (1 : Int32).toInt = 1 := rfl
        exact (hp _ )
  have d_72 := iNe c_60
  have l_74 : (45 : Int32).toInt = 45 := rfl
  refine ⟨fun c_73 => ?_, fun c_73 => ?_⟩
  · have d_75 := iEq c_73
    exact (hp _ )
  have d_76 := iNe c_73
  have l_78 : (46 : Int32).toInt = 46 := rfl
  refine ⟨fun c_77 => ?_, fun c_77 => ?_⟩
  · have d_79 := iEq c_77
    unfold fModel_two_187
    have l_80 : (0 : Int32).toInt = 0 := rfl
    refine ⟨fun c_81 => ?_, fun c_81 => ?_⟩
    · have d_82 := iNe c_81
      unfold fModel_two_195
      have l_83 : (1 : Int32).toInt = 1 := rfl
      exact (hp _ )
    · have d_84 := iEq c_81
      refine ⟨fun c_85 => ?_, fun c_85 => ?_⟩
      · have d_86 := iEq c_85
        exact (hp _ )
      · have d_87 := iNe c_85
        unfold fModel_two_195
        have l_88 : (1 : Int32).toInt = 1 := rfl
        exact (hp _ )
  have d_89 := iNe c_77
  have l_91 : (47 : Int32).toInt = 47 := rfl
  refine ⟨fun c_90 => ?_, fun c_90 => ?_⟩
  · have d_92 := iEq c_90
    have l_93 : (0 : Int32).toInt = 0 := rfl
    refine ⟨fun c_94 => ?_, fun c_94 => ?_⟩
    · have d_95 := iNe c_94
      refine ⟨fun h => absurd (iEq h) (by have : (0 : Int32).toInt = 0 := rfl; omega), ?_⟩
      exact (hp _ )
    · have d_96 := iEq c_94
      exact (hp _ )
  have d_97 := iNe c_90
  have l_99 : (48 : Int32).toInt = 48 := rfl
  refine ⟨fun c_98 => ?_, fun c_98 => ?_⟩
  · have d_100 := iEq c_98
    unfold fModel_two_187
    have l_101 : (0 : Int32).toInt = 0 := rfl
    refine ⟨fun c_102 => ?_, fun c_102 => ?_⟩
    · have d_103 := iNe c_102
      unfold fModel_two_195
      have l_104 : (1 : Int32).toInt = 1 := rfl
      exact (hp _ )
    · have d_105 := iEq c_102
      refine ⟨fun c_106 => ?_, fun c_106 => ?_⟩
      · have d_107 := iEq c_106
        exact (hp _ )
      · have d_108 := iNe c_106
        unfold fModel_two_195
        have l_109 : (1 : Int32).toInt = 1 := rfl
        exact (hp _ )
  have d_110 := iNe c_98
  have l_112 : (49 : Int32).toInt = 49 := rfl
  refine ⟨fun c_111 => ?_, fun c_111 => ?_⟩
  · have d_113 := iEq c_111
    unfold fModel_two_187
    have l_114 : (0 : Int32).toInt = 0 := rfl
    refine ⟨fun c_115 => ?_, fun c_115 => ?_⟩
    · have d_116 := iNe c_115
      unfold fModel_two_195
      have l_117 : (1 : Int32).toInt = 1 := rfl
      exact (hp _ )
    · have d_118 := iEq c_115
      refine ⟨fun c_119 => ?_, fun c_119 => ?_⟩
      · have d_120 := iEq c_119
        exact (hp _ )
      · have d_121 := iNe c_119
        unfold fModel_two_195
        have l_122 : (1 : Int32).toInt = 1 := rfl
        exact (hp _ )
  have d_123 := iNe c_111
  have l_125 : (50 : Int32).toInt = 50 := rfl
  refine ⟨fun c_124 => ?_, fun c_124 => ?_⟩
  · have d_126 := iEq c_124
    unfold fModel_two_187
    have l_127 : (0 : Int32).toInt = 0 := rfl
    refine ⟨fun c_128 => ?_, fun c_128 => ?_⟩
    · have d_129 := iNe c_128
      unfold fModel_two_195
      have l_130 : (1 : Int32).toInt = 1 := rfl
      exact (hp _ )
    · have d_131 := iEq c_128
      refine ⟨fun c_132 => ?_, fun c_132 => ?_⟩
      · have d_133 := iEq c_132
        exact (hp _ )
      · have d_134 := iNe c_132
        unfold fModel_two_195
        have l_135 : (1 : Int32).toInt = 1 := rfl
        exact (hp _ )
  have d_136 := iNe c_124
  have l_138 : (51 : Int32).toInt = 51 := rfl
  refine ⟨fun c_137 => ?_, fun c_137 => ?_⟩
  · have d_139 := iEq c_137
    unfold fModel_two_187
    have l_140 : (0 : Int32).toInt = 0 := rfl
    refine ⟨fun c_141 => ?_, fun c_141 => ?_⟩
    · have d_142 := iNe c_141
      unfold fModel_two_195
      have l_143 : (1 : Int32).toInt = 1 := rfl
      exact (hp _ )
    · have d_144 := iEq c_141
      refine ⟨fun c_145 => ?_, fun c_145 => ?_⟩
      · have d_146 := iEq c_145
        exact (hp _ )
      · have d_147 := iNe c_145
        unfold fModel_two_195
        have l_148 : (1 : Int32).toInt = 1 := rfl
        exact (hp _ )
  have d_149 := iNe c_137
  have l_151 : (52 : Int32).toInt = 52 := rfl
  refine ⟨fun c_150 => ?_, fun c_150 => ?_⟩
  · have d_152 := iEq c_150
    unfold fModel_two_187
    have l_153 : (0 : Int32).toInt = 0 := rfl
    refine ⟨fun c_154 => ?_, fun c_154 => ?_⟩
    · have d_155 := iNe c_154
      unfold fModel_two_195
      have l_156 : (1 : Int32).toInt = 1 := rfl
      exact (hp _ )
    · have d_157 := iEq c_154
      refine ⟨fun c_158 => ?_, fun c_158 => ?_⟩
      · have d_159 := iEq c_158
        exact (hp _ )
      · have d_160 := iNe c_158
        unfold fModel_two_195
        have l_161 : (1 : Int32).toInt = 1 := rfl
        exact (hp _ )
  have d_162 := iNe c_150
  have l_164 : (53 : Int32).toInt = 53 := rfl
  refine ⟨fun c_163 => ?_, fun c_163 => ?_⟩
  · have d_165 := iEq c_163
    unfold fModel_two_187
    have l_166 : (0 : Int32).toInt = 0 := rfl
    refine ⟨fun c_167 => ?_, fun c_167 => ?_⟩
    · have d_168 := iNe c_167
      unfold fModel_two_195
      have l_169 : (1 : Int32).toInt = 1 := rfl
      exact (hp _ )
    · have d_170 := iEq c_167
      refine ⟨fun c_171 => ?_, fun c_171 => ?_⟩
      · have d_172 := iEq c_171
        exact (hp _ )
      · have d_173 := iNe c_171
        unfold fModel_two_195
        have l_174 : (1 : Int32).toInt = 1 := rfl
        exact (hp _ )
  have d_175 := iNe c_163
  have l_177 : (54 : Int32).toInt = 54 := rfl
  refine ⟨fun c_176 => ?_, fun c_176 => ?_⟩
  · have d_178 := iEq c_176
    unfold fModel_two_187
    have l_179 : (0 : Int32).toInt = 0 := rfl
    refine ⟨fun c_180 => ?_, fun c_180 => ?_⟩
    · have d_181 := iNe c_180
      unfold fModel_two_195
      have l_182 : (1 : Int32).toInt = 1 := rfl
      exact (hp _ )
    · have d_183 := iEq c_180
      refine ⟨fun c_184 => ?_, fun c_184 => ?_⟩
      · have d_185 := iEq c_184
        exact (hp _ )
      · have d_186 := iNe c_184
        unfold fModel_two_195
        have l_187 : (1 : Int32).toInt = 1 := rfl
        exact (hp _ )
  have d_188 := iNe c_176
  have l_190 : (55 : Int32).toInt = 55 := rfl
  refine ⟨fun c_189 => ?_, fun c_189 => ?_⟩
  · have d_191 := iEq c_189
    unfold fModel_two_187
    have l_192 : (0 : Int32).toInt = 0 := rfl
    refine ⟨fun c_193 => ?_, fun c_193 => ?_⟩
    · have d_194 := iNe c_193
      unfold fModel_two_195
      have l_195 : (1 : Int32).toInt = 1 := rfl
      exact (hp _ )
    · have d_196 := iEq c_193
      refine ⟨fun c_197 => ?_, fun c_197 => ?_⟩
      · have d_198 := iEq c_197
        exact (hp _ )
      · have d_199 := iNe c_197
        unfold fModel_two_195
        have l_200 : (1 : Int32).toInt = 1 := rfl
        exact (hp _ )
  have d_201 := iNe c_189
  have l_203 : (56 : Int32).toInt = 56 := rfl
  refine ⟨fun c_202 => ?_, fun c_202 => ?_⟩
  · have d_204 := iEq c_202
    unfold fModel_two_187
    have l_205 : (0 : Int32).toInt = 0 := rfl
    refine ⟨fun c_206 => ?_, fun c_206 => ?_⟩
    · have d_207 := iNe c_206
      unfold fModel_two_195
      have l_208 : (1 : Int32).toInt = 1 := rfl
      exact (hp _ )
    · have d_209 := iEq c_206
      refine ⟨fun c_210 => ?_, fun c_210 => ?_⟩
      · have d_211 := iEq c_210
        exact (hp _ )
      · have d_212 := iNe c_210
        unfold fModel_two_195
        have l_213 : (1 : Int32).toInt = 1 := rfl
        exact (hp _ )
  have d_214 := iNe c_202
  have l_216 : (57 : Int32).toInt = 57 := rfl
  refine ⟨fun c_215 => ?_, fun c_215 => ?_⟩
  · have d_217 := iEq c_215
    unfold fModel_two_187
    have l_218 : (0 : Int32).toInt = 0 := rfl
    refine ⟨fun c_219 => ?_, fun c_219 => ?_⟩
    · have d_220 := iNe c_219
      unfold fModel_two_195
      have l_221 : (1 : Int32).toInt = 1 := rfl
      exact (hp _ )
    · have d_222 := iEq c_219
      refine ⟨fun c_223 => ?_, fun c_223 => ?_⟩
      · have d_224 := iEq c_223
        exact (hp _ )
      · have d_225 := iNe c_223
        unfold fModel_two_195
        have l_226 : (1 : Int32).toInt = 1 := rfl
        exact (hp _ )
  have d_227 := iNe c_215
  have l_229 : (58 : Int32).toInt = 58 := rfl
  refine ⟨fun c_228 => ?_, fun c_228 => ?_⟩
  · have d_230 := iEq c_228
    unfold fModel_two_187
    have l_231 : (0 : Int32).toInt = 0 := rfl
    refine ⟨fun c_232 => ?_, fun c_232 => ?_⟩
    · have d_233 := iNe c_232
      unfold fModel_two_195
      have l_234 : (1 : Int32).toInt = 1 := rfl
      exact (hp _ )
    · have d_235 := iEq c_232
      refine ⟨fun c_236 => ?_, fun c_236 => ?_⟩
      · have d_237 := iEq c_236
        exact (hp _ )
      · have d_238 := iNe c_236
        unfold fModel_two_195
        have l_239 : (1 : Int32).toInt = 1 := rfl
        exact (hp _ )
  have d_240 := iNe c_228
  have l_242 : (59 : Int32).toInt = 59 := rfl
  refine ⟨fun c_241 => ?_, fun c_241 => ?_⟩
  · have d_243 := iEq c_241
    unfold fModel_two_187
    have l_244 : (0 : Int32).toInt = 0 := rfl
    refine ⟨fun c_245 => ?_, fun c_245 => ?_⟩
    · have d_246 := iNe c_245
      unfold fModel_two_195
      have l_247 : (1 : Int32).toInt = 1 := rfl
      exact (hp _ )
    · have d_248 := iEq c_245
      refine ⟨fun c_249 => ?_, fun c_249 => ?_⟩
      · have d_250 := iEq c_249
        exact (hp _ )
      · have d_251 := iNe c_249
        unfold fModel_two_195
        have l_252 : (1 : Int32).toInt = 1 := rfl
        exact (hp _ )
  have d_253 := iNe c_241
  have l_255 : (60 : Int32).toInt = 60 := rfl
  refine ⟨fun c_254 => ?_, fun c_254 => ?_⟩
  · have d_256 := iEq c_254
    refine ⟨fun c_257 => ?_, fun c_257 => ?_⟩
    · have d_258 := iLe c_257
      have l_259 : (0 : Int32).toInt = 0 := rfl
      exact (hp _ )
    · have d_260 := iNle c_257
      have l_261 : (1 : Int32).toInt = 1 := rfl
      exact (hp _ )
  have d_262 := iNe c_254
  have l_264 : (61 : Int32).toInt = 61 := rfl
  refine ⟨fun c_263 => ?_, fun c_263 => ?_⟩
  · have d_265 := iEq c_263
    refine ⟨fun c_266 => ?_, fun c_266 => ?_⟩
    · have d_267 := iNe c_266
      have l_268 : (0 : Int32).toInt = 0 := rfl
      exact (hp _ )
    · have d_269 := iEq c_266
      have l_270 : (1 : Int32).toInt = 1 := rfl
      exact (hp _ )
  have d_271 := iNe c_263
  have l_273 : (62 : Int32).toInt = 62 := rfl
  refine ⟨fun c_272 => ?_, fun c_272 => ?_⟩
  · have d_274 := iEq c_272
    refine ⟨fun c_275 => ?_, fun c_275 => ?_⟩
    · have d_276 := iLe c_275
      have l_277 : (0 : Int32).toInt = 0 := rfl
      exact (hp _ )
    · have d_278 := iNle c_275
      have l_279 : (1 : Int32).toInt = 1 := rfl
      exact (hp _ )
  have d_280 := iNe c_272
  unfold fModel_two_187
  have l_281 : (0 : Int32).toInt = 0 := rfl
  refine ⟨fun c_282 => ?_, fun c_282 => ?_⟩
  · have d_283 := iNe c_282
    unfold fModel_two_195
    have l_284 : (1 : Int32).toInt = 1 := rfl
    exact (hp _ )
  · have d_285 := iEq c_282
    refine ⟨fun c_286 => ?_, fun c_286 => ?_⟩
    · have d_287 := iEq c_286
      exact (hp _ )
    · have d_288 := iNe c_286
      unfold fModel_two_195
      have l_289 : (1 : Int32).toInt = 1 := rfl
      exact (hp _ )
