/-! Safety of the reference: live, run, judge, way, worth: by program (spec.py). -/
def wModel_live : Nat → Bool := fun j => Nat.beq j 61 || Nat.beq j 62 || Nat.beq j 63 || Nat.beq j 64 || Nat.beq j 65 || Nat.beq j 66 || Nat.beq j 67 || Nat.beq j 84 || Nat.beq j 114 || Nat.beq j 115 || Nat.beq j 116 || Nat.beq j 117 || Nat.beq j 118 || Nat.beq j 119 || Nat.beq j 120 || Nat.beq j 121 || Nat.beq j 130 || Nat.beq j 132 || Nat.beq j 133 || Nat.beq j 134 || Nat.beq j 135 || Nat.beq j 136 || Nat.beq j 137 || false
set_option maxHeartbeats 4000000 in
set_option maxRecDepth 20000 in
theorem yModel_live_82 {D : va_G} {cA : FieldType → ClassId} {b : Nat} {E : State → Prop} {R : qRg} {o n : Nat} {sh : Nat → qC} {Rf : Nat → Nat → Option Nat} {I0 : Nat → Nat → Int32} {L0 : Nat → Nat → Int64} {post : Option Value → qS → Prop} {p1 : Int32} {p2 : Int32} {p3 : Int32} (hok : q_ok (qGG D cA b E)) (hw : WfModel (qGG D cA b E) n sh Rf o) (ra : RAModel R o) (hz61 : R.2 61 = true) (hz62 : R.2 62 = true) (hz63 : R.2 63 = true) (hz64 : R.2 64 = true) (hz65 : R.2 65 = true) (hz66 : R.2 66 = true) (hz67 : R.2 67 = true) (hz84 : R.2 84 = true) (hz114 : R.2 114 = true) (hz115 : R.2 115 = true) (hz116 : R.2 116 = true) (hz117 : R.2 117 = true) (hz118 : R.2 118 = true) (hz119 : R.2 119 = true) (hz120 : R.2 120 = true) (hz121 : R.2 121 = true) (hz130 : R.2 130 = true) (hz132 : R.2 132 = true) (hz133 : R.2 133 = true) (hz134 : R.2 134 = true) (hz135 : R.2 135 = true) (hz136 : R.2 136 = true) (hz137 : R.2 137 = true) (hZ : Fz R I0 o wModel_live) (hR0 : RI R I0) (hq0 : (0 : Int) ≤ p1.toInt ∧ p1.toInt ≤ 3) (hq1 : (0 : Int) ≤ p2.toInt ∧ p2.toInt ≤ 240) (hq2 : MTd I0 o) (hq3 : MFac I0 o) (hp : ∀ (I' : Nat → Nat → Int32) (L' : Nat → Nat → Int64), RI R I' → Fm (fun c => c = o ∨ c = o + 34 ∨ (o + 42 ≤ c ∧ c < o + 68) ∨ (o + 70 ≤ c ∧ c < o + 75)) I0 I' → (MTd I' o) → (MFac I' o) → post none (n, sh, Rf, I', L')) {k19 : Nat} (ho19 : ∀ {x1 : Int32} {x2 : Int32} {x3 : Int32} {I : Nat → Nat → Int32} {L : Nat → Nat → Int64}, RI R I → Fm (fun c => c = o ∨ c = o + 34 ∨ (o + 42 ≤ c ∧ c < o + 68) ∨ (o + 70 ≤ c ∧ c < o + 75)) I0 I → ((I o 106).toInt ≠ 4) → (x1 = p1) → (x2 = p2) → (x3 = p3) → (MTd I o) → (MFac I o) → (Pap I o) → (Lot I o) → (JA I o) → (240 - (I o 57).toInt).toNat < k19 → Ev (qGG D cA b E) mModel_live 9 (0, 0) 19 [(0, .ref o), (1, .int x1), (2, .int x2), (3, .int x3)] [] (n, sh, Rf, I, L) post) : ∀ (k : Nat) {x1 : Int32} {x2 : Int32} {x3 : Int32} {x4 : Int32} {I : Nat → Nat → Int32} {L : Nat → Nat → Int64}, RI R I → Fm (fun c => c = o ∨ c = o + 34 ∨ (o + 42 ≤ c ∧ c < o + 68) ∨ (o + 70 ≤ c ∧ c < o + 75)) I0 I → ((0 : Int) ≤ x4.toInt ∧ x4.toInt ≤ 6) → ((I o 106).toInt ≠ 4) → ((I o 57).toInt ≤ 239) → ((240 - (I o 57).toInt).toNat < k19 + 1) → (JB I o x4.toInt) → (x1 = p1) → (x2 = p2) → (x3 = p3) → (MTd I o) → (MFac I o) → (Pap I o) → (Lot I o) → (6 - x4.toInt).toNat < k → Ev (qGG D cA b E) mModel_live 9 (0, 0) 82 [(0, .ref o), (1, .int x1), (2, .int x2), (3, .int x3), (4, .int x4)] [] (n, sh, Rf, I, L) post := by
  intro k
  induction k with
  | zero =>
    intro x1 x2 x3 x4 I L hR hf hi0 hi1 hi2 hi3 hi4 hi5 hi6 hi7 hi8 hi9 hi10 hi11 hm
    exact absurd hm (Nat.not_lt_zero _)
  | succ k ih =>
    intro x1 x2 x3 x4 I L hR hf hi0 hi1 hi2 hi3 hi4 hi5 hi6 hi7 hi8 hi9 hi10 hi11 hm
    have hz0 := hi5.symm
    subst hz0
    have hz1 := hi6.symm
    subst hz1
    have hz2 := hi7.symm
    subst hz2
    have g_1 : (0 : Int) ≤ (I o 106).toInt ∧ (I o 106).toInt ≤ 5 := hR.at0 ra 106 (by decide)
    have g_2 : (0 : Int) ≤ (I0 o 106).toInt ∧ (I0 o 106).toInt ≤ 5 := hR0.at0 ra 106 (by decide)
    have g_3 : (0 : Int) ≤ (I o 57).toInt ∧ (I o 57).toInt ≤ 240 := hR.at0 ra 57 (by decide)
    have g_4 : (0 : Int) ≤ (I0 o 57).toInt ∧ (I0 o 57).toInt ≤ 240 := hR0.at0 ra 57 (by decide)
    have g_5 : (0 : Int) ≤ (I o 104).toInt ∧ (I o 104).toInt ≤ 2000 := hR.at0 ra 104 (by decide)
    have g_6 : (0 : Int) ≤ (I0 o 104).toInt ∧ (I0 o 104).toInt ≤ 2000 := hR0.at0 ra 104 (by decide)
    have g_7 : (0 : Int) ≤ (I o 105).toInt ∧ (I o 105).toInt ≤ 4000 := hR.at0 ra 105 (by decide)
    have g_8 : (0 : Int) ≤ (I0 o 105).toInt ∧ (I0 o 105).toInt ≤ 4000 := hR0.at0 ra 105 (by decide)
    refine sModel_live_82 o n sh Rf I L post p1 p2 p3 x4 hok hw ?_
    unfold fModel_live_82
    have g_9 : (0 : Int) ≤ (I o 66).toInt ∧ (I o 66).toInt ≤ 6 := hR.at0 ra 66 (by decide)
    refine ⟨fun c_10 => ?_, fun c_10 => ?_⟩
    · have d_11 := iLe c_10
      have k_12 : JB I o x4.toInt := by exact hi4
      refine y_Model_smuggle hok hw ra hR (fun I_14 L_15 hR_16 fr_17 kp_18  => ⟨I_14, L_15, rfl, rfl, ?_⟩)
      have hf_19 : Fm (fun c => c = o ∨ c = o + 34 ∨ (o + 42 ≤ c ∧ c < o + 68) ∨ (o + 70 ≤ c ∧ c < o + 75)) I0 I_14 := hf.call fr_17 (fun c hc => by first | exact hc | (dsimp only at hc ⊢; omega) | omega)
      have t_20 : (I_14 o 106).toInt = (I o 106).toInt := by rw [kp_18 106 rfl]
      have t_21 : (I_14 o 57).toInt = (I o 57).toInt := by rw [kp_18 57 rfl]
      have t_22 : (I_14 o 104).toInt = (I o 104).toInt := by rw [kp_18 104 rfl]
      have t_23 : (I_14 o 105).toInt = (I o 105).toInt := by rw [kp_18 105 rfl]
      have t_24 : (I_14 o 66).toInt = (I o 66).toInt := by rw [kp_18 66 rfl]
      have k_25 : MTd I_14 o := hi8.fr (fr_17 _ (by first | omega | (dsimp only; omega))) (fr_17 _ (by first | omega | (dsimp only; omega))) (fr_17 _ (by first | omega | (dsimp only; omega)))
      have k_26 : MFac I_14 o := hi9.fr (fr_17 _ (by first | omega | (dsimp only; omega))) (fr_17 _ (by first | omega | (dsimp only; omega))) (kp_18 67 rfl)
      have k_27 : Pap I_14 o := hi10.fr (fr_17 _ (by first | omega | (dsimp only; omega))) (fr_17 _ (by first | omega | (dsimp only; omega))) (fr_17 _ (by first | omega | (dsimp only; omega))) (kp_18 104 rfl)
      have k_28 : Lot I_14 o := hi11.fr (fr_17 _ (by first | omega | (dsimp only; omega))) (fr_17 _ (by first | omega | (dsimp only; omega))) (kp_18 105 rfl)
      have k_29 : JB I_14 o x4.toInt := k_12.fr (fr_17 _ (by first | omega | (dsimp only; omega))) (fr_17 _ (by first | omega | (dsimp only; omega))) (fr_17 _ (by first | omega | (dsimp only; omega))) (kp_18 57 rfl) (kp_18 104 rfl) (kp_18 105 rfl)
      refine y_Model_note hok hw ra (by first | omega | (intro h; omega) | exact Or.inl rfl | exact Or.inr rfl) hR_16 (fun I_31 L_32 hR_33 fr_34 kp_35  => ⟨I_31, L_32, rfl, rfl, ?_⟩)
      have hf_36 : Fm (fun c => c = o ∨ c = o + 34 ∨ (o + 42 ≤ c ∧ c < o + 68) ∨ (o + 70 ≤ c ∧ c < o + 75)) I0 I_31 := hf_19.call fr_34 (fun c hc => by first | exact hc | (dsimp only at hc ⊢; omega) | omega)
      have t_37 : (I_31 o 106).toInt = (I_14 o 106).toInt := by rw [kp_35 106 rfl]
      have t_38 : (I_31 o 57).toInt = (I_14 o 57).toInt := by rw [kp_35 57 rfl]
      have t_39 : (I_31 o 104).toInt = (I_14 o 104).toInt := by rw [kp_35 104 rfl]
      have t_40 : (I_31 o 105).toInt = (I_14 o 105).toInt := by rw [kp_35 105 rfl]
      have t_41 : (I_31 o 66).toInt = (I_14 o 66).toInt := by rw [kp_35 66 rfl]
      have k_42 : MTd I_31 o := k_25.fr (fr_34 _ (by first | omega | (dsimp only; omega))) (fr_34 _ (by first | omega | (dsimp only; omega))) (fr_34 _ (by first | omega | (dsimp only; omega)))
      have k_43 : MFac I_31 o := k_26.fr (fr_34 _ (by first | omega | (dsimp only; omega))) (fr_34 _ (by first | omega | (dsimp only; omega))) (kp_35 67 rfl)
      have k_44 : Pap I_31 o := k_27.fr (fr_34 _ (by first | omega | (dsimp only; omega))) (fr_34 _ (by first | omega | (dsimp only; omega))) (fr_34 _ (by first | omega | (dsimp only; omega))) (kp_35 104 rfl)
      have k_45 : Lot I_31 o := k_28.fr (fr_34 _ (by first | omega | (dsimp only; omega))) (fr_34 _ (by first | omega | (dsimp only; omega))) (kp_35 105 rfl)
      have k_46 : JB I_31 o x4.toInt := k_29.fr (fr_34 _ (by first | omega | (dsimp only; omega))) (fr_34 _ (by first | omega | (dsimp only; omega))) (fr_34 _ (by first | omega | (dsimp only; omega))) (kp_35 57 rfl) (kp_35 104 rfl) (kp_35 105 rfl)
      have g_47 : (0 : Int) ≤ (I_31 o 57).toInt ∧ (I_31 o 57).toInt ≤ 240 := hR_33.at0 ra 57 (by decide)
      have l_48 : (1 : Int32).toInt = 1 := rfl
      have a_49 : ((I_31 o 57) + 1).toInt = (I_31 o 57).toInt + (1 : Int32).toInt := tAdd (by omega) (by omega)
      refine fun I_50 e_51 => ?_
      have hR_52 : RI R I_50 := hR_33.up0 (k := 57) ra (by decide) (Or.inr hz67) e_51 (show (0 : Int) ≤ ((I_31 o 57) + 1).toInt by omega) (show ((I_31 o 57) + 1).toInt ≤ (240 : Int) by omega)
      have hf_53 : Fm (fun c => c = o ∨ c = o + 34 ∨ (o + 42 ≤ c ∧ c < o + 68) ∨ (o + 70 ≤ c ∧ c < o + 75)) I0 I_50 := hf_36.set (by first | rfl | omega | (dsimp only; omega)) e_51
      have t_54 : (I_50 o 106).toInt = (I_31 o 106).toInt := by rw [← e_51, q_u_k (by decide)]
      have t_55 : (I_50 o 57).toInt = ((I_31 o 57) + 1).toInt := by rw [← e_51, q_u_at]
      have t_56 : (I_50 o 104).toInt = (I_31 o 104).toInt := by rw [← e_51, q_u_k (by decide)]
      have t_57 : (I_50 o 105).toInt = (I_31 o 105).toInt := by rw [← e_51, q_u_k (by decide)]
      have t_58 : (I_50 o 66).toInt = (I_31 o 66).toInt := by rw [← e_51, q_u_k (by decide)]
      have k_59 : MTd I_50 o := k_42.fr (by rw [← e_51]; exact q_u_ne (by omega)) (by rw [← e_51]; exact q_u_ne (by omega)) (by rw [← e_51]; exact q_u_ne (by omega))
      have k_60 : MFac I_50 o := k_43.fr (by rw [← e_51]; exact q_u_ne (by omega)) (by rw [← e_51]; exact q_u_ne (by omega)) (by rw [← e_51, q_u_k (by decide)])
      have k_61 : Pap I_50 o := k_44.fr (by rw [← e_51]; exact q_u_ne (by omega)) (by rw [← e_51]; exact q_u_ne (by omega)) (by rw [← e_51]; exact q_u_ne (by omega)) (by rw [← e_51, q_u_k (by decide)])
      have k_62 : Lot I_50 o := k_45.fr (by rw [← e_51]; exact q_u_ne (by omega)) (by rw [← e_51]; exact q_u_ne (by omega)) (by rw [← e_51, q_u_k (by decide)])
      have k_64 : JA I_50 o := by exact JA.next k_46 (by omega) e_51 (by omega)
      exact ho19 hR_52 hf_53 (by first | omega | (intro h; omega) | exact Or.inl rfl | exact Or.inr rfl) rfl rfl rfl k_59 k_60 k_61 k_62 k_64 (by omega)
    · have d_65 := iNle c_10
      have k_66 : JB I o x4.toInt := by exact hi4
      have l_67 : (-1 : Int32).toInt = -1 := rfl
      refine ⟨tIn (by omega) (by omega), fun I_68 e_69 => ?_⟩
      have hR_70 : RI R I_68 := hR.up ra 70 (by decide) (Or.inl rfl) e_69 (i_lo _) (i_hi _)
      have hf_71 : Fm (fun c => c = o ∨ c = o + 34 ∨ (o + 42 ≤ c ∧ c < o + 68) ∨ (o + 70 ≤ c ∧ c < o + 75)) I0 I_68 := hf.set (by first | rfl | omega | (dsimp only; omega)) e_69
      have t_72 : (I_68 o 106).toInt = (I o 106).toInt := by rw [← e_69, q_u_ne (by omega)]
      have t_73 : (I_68 o 57).toInt = (I o 57).toInt := by rw [← e_69, q_u_ne (by omega)]
      have t_74 : (I_68 o 104).toInt = (I o 104).toInt := by rw [← e_69, q_u_ne (by omega)]
      have t_75 : (I_68 o 105).toInt = (I o 105).toInt := by rw [← e_69, q_u_ne (by omega)]
      have t_76 : (I_68 o 66).toInt = (I o 66).toInt := by rw [← e_69, q_u_ne (by omega)]
      have k_77 : MTd I_68 o := hi8.fr (by rw [← e_69]; exact q_u_ne (by omega)) (by rw [← e_69]; exact q_u_ne (by omega)) (by rw [← e_69]; exact q_u_ne (by omega))
      have k_78 : MFac I_68 o := hi9.fr (by rw [← e_69]; exact q_u_ne (by omega)) (by rw [← e_69]; exact q_u_ne (by omega)) (by rw [← e_69, q_u_ne (by omega)])
      have k_79 : Pap I_68 o := hi10.fr (by rw [← e_69]; exact q_u_ne (by omega)) (by rw [← e_69]; exact q_u_ne (by omega)) (by rw [← e_69]; exact q_u_ne (by omega)) (by rw [← e_69, q_u_ne (by omega)])
      have k_80 : Lot I_68 o := hi11.fr (by rw [← e_69]; exact q_u_ne (by omega)) (by rw [← e_69]; exact q_u_ne (by omega)) (by rw [← e_69, q_u_ne (by omega)])
      have k_81 : JB I_68 o x4.toInt := k_66.fr (by rw [← e_69]; exact q_u_ne (by omega)) (by rw [← e_69]; exact q_u_ne (by omega)) (by rw [← e_69]; exact q_u_ne (by omega)) (by rw [← e_69, q_u_ne (by omega)]) (by rw [← e_69, q_u_ne (by omega)]) (by rw [← e_69, q_u_ne (by omega)])
      have l_82 : (0 : Int32).toInt = 0 := rfl
      refine ⟨tIn (by omega) (by omega), fun L_83 e_84 => ?_⟩
      refine y_Model_isDead hok hw ra (by first | omega | (intro h; omega) | exact Or.inl rfl | exact Or.inr rfl) hR_70 (fun r_85 u_86 => ⟨r_85, I_68, L_83, rfl, rfl, ?_⟩)
      have b_87 : 0 ≤ r_85.toInt ∧ r_85.toInt ≤ 1 := u_86.rg
      refine ⟨fun c_88 => ?_, fun c_88 => ?_⟩
      · have d_89 := iNe c_88
        unfold fModel_live_122
        have a_91 : (x4 + Int32.ofInt 1).toInt = x4.toInt + (1) := tIc (by omega) (by omega) (by decide) (by decide)
        generalize ez_90 : (x4 + Int32.ofInt 1) = z_90 at a_91 ⊢
        exact ih hR_70 hf_71 (by first | omega | (intro h; omega) | exact Or.inl rfl | exact Or.inr rfl) (by first | omega | (intro h; omega) | exact Or.inl rfl | exact Or.inr rfl) (by first | omega | (intro h; omega) | exact Or.inl rfl | exact Or.inr rfl) (by first | omega | (intro h; omega) | exact Or.inl rfl | exact Or.inr rfl) (by first | exact JX.up (False.elim (by omega)) (by omega) | exact JX.up k_81 (by omega)) rfl rfl rfl k_77 k_78 k_79 k_80 (by omega)
      · have d_92 := iEq c_88
        refine y_Model_act hok hw ra hz61 hz62 hz63 hz114 hz115 hz121 hz130 hz132 hz133 hz134 hz135 hz136 hz137 (by first | omega | (intro h; omega) | exact Or.inl rfl | exact Or.inr rfl) (by first | omega | (intro h; omega) | exact Or.inl rfl | exact Or.inr rfl) (by first | omega | (intro h; omega) | exact Or.inl rfl | exact Or.inr rfl) (by first | omega | (intro h; omega) | exact Or.inl rfl | exact Or.inr rfl) k_77 k_79 k_80 k_81 hR_70 (fun I_98 L_99 hR_100 fr_101 kp_102 u_94 u_95 u_96 u_97 => ⟨I_98, L_99, rfl, rfl, ?_⟩)
        have hf_103 : Fm (fun c => c = o ∨ c = o + 34 ∨ (o + 42 ≤ c ∧ c < o + 68) ∨ (o + 70 ≤ c ∧ c < o + 75)) I0 I_98 := hf_71.call fr_101 (fun c hc => by first | exact hc | (dsimp only at hc ⊢; omega) | omega)
        have t_104 : (I_98 o 106).toInt = (I_68 o 106).toInt := by rw [kp_102 106 rfl]
        have t_105 : (I_98 o 57).toInt = (I_68 o 57).toInt := by rw [kp_102 57 rfl]
        have g_106 : (0 : Int) ≤ (I_98 o 104).toInt ∧ (I_98 o 104).toInt ≤ 2000 := hR_100.at0 ra 104 (by decide)
        have g_107 : (0 : Int) ≤ (I_98 o 105).toInt ∧ (I_98 o 105).toInt ≤ 4000 := hR_100.at0 ra 105 (by decide)
        have t_108 : (I_98 o 66).toInt = (I_68 o 66).toInt := by rw [kp_102 66 rfl]
        have k_109 : MFac I_98 o := k_78.fr (fr_101 _ (by first | omega | (dsimp only; omega))) (fr_101 _ (by first | omega | (dsimp only; omega))) (kp_102 67 rfl)
        unfold fModel_live_122
        have a_111 : (x4 + Int32.ofInt 1).toInt = x4.toInt + (1) := tIc (by omega) (by omega) (by decide) (by decide)
        generalize ez_110 : (x4 + Int32.ofInt 1) = z_110 at a_111 ⊢
        exact ih hR_100 hf_103 (by first | omega | (intro h; omega) | exact Or.inl rfl | exact Or.inr rfl) (by first | omega | (intro h; omega) | exact Or.inl rfl | exact Or.inr rfl) (by first | omega | (intro h; omega) | exact Or.inl rfl | exact Or.inr rfl) (by first | omega | (intro h; omega) | exact Or.inl rfl | exact Or.inr rfl) (by first | exact JX.up u_97 (by omega) | exact JX.up (False.elim (by omega)) (by omega)) rfl rfl rfl u_94 k_109 u_95 u_96 (by omega)
set_option maxHeartbeats 4000000 in
set_option maxRecDepth 20000 in
theorem yModel_live_50 {D : va_G} {cA : FieldType → ClassId} {b : Nat} {E : State → Prop} {R : qRg} {o n : Nat} {sh : Nat → qC} {Rf : Nat → Nat → Option Nat} {I0 : Nat → Nat → Int32} {L0 : Nat → Nat → Int64} {post : Option Value → qS → Prop} {p1 : Int32} {p2 : Int32} {p3 : Int32} (hok : q_ok (qGG D cA b E)) (hw : WfModel (qGG D cA b E) n sh Rf o) (ra : RAModel R o) (hz61 : R.2 61 = true) (hz62 : R.2 62 = true) (hz63 : R.2 63 = true) (hz64 : R.2 64 = true) (hz65 : R.2 65 = true) (hz66 : R.2 66 = true) (hz67 : R.2 67 = true) (hz84 : R.2 84 = true) (hz114 : R.2 114 = true) (hz115 : R.2 115 = true) (hz116 : R.2 116 = true) (hz117 : R.2 117 = true) (hz118 : R.2 118 = true) (hz119 : R.2 119 = true) (hz120 : R.2 120 = true) (hz121 : R.2 121 = true) (hz130 : R.2 130 = true) (hz132 : R.2 132 = true) (hz133 : R.2 133 = true) (hz134 : R.2 134 = true) (hz135 : R.2 135 = true) (hz136 : R.2 136 = true) (hz137 : R.2 137 = true) (hZ : Fz R I0 o wModel_live) (hR0 : RI R I0) (hq0 : (0 : Int) ≤ p1.toInt ∧ p1.toInt ≤ 3) (hq1 : (0 : Int) ≤ p2.toInt ∧ p2.toInt ≤ 240) (hq2 : MTd I0 o) (hq3 : MFac I0 o) (hp : ∀ (I' : Nat → Nat → Int32) (L' : Nat → Nat → Int64), RI R I' → Fm (fun c => c = o ∨ c = o + 34 ∨ (o + 42 ≤ c ∧ c < o + 68) ∨ (o + 70 ≤ c ∧ c < o + 75)) I0 I' → (MTd I' o) → (MFac I' o) → post none (n, sh, Rf, I', L')) {k19 : Nat} (ho19 : ∀ {x1 : Int32} {x2 : Int32} {x3 : Int32} {I : Nat → Nat → Int32} {L : Nat → Nat → Int64}, RI R I → Fm (fun c => c = o ∨ c = o + 34 ∨ (o + 42 ≤ c ∧ c < o + 68) ∨ (o + 70 ≤ c ∧ c < o + 75)) I0 I → ((I o 106).toInt ≠ 4) → (x1 = p1) → (x2 = p2) → (x3 = p3) → (MTd I o) → (MFac I o) → (Pap I o) → (Lot I o) → (JA I o) → (240 - (I o 57).toInt).toNat < k19 → Ev (qGG D cA b E) mModel_live 9 (0, 0) 19 [(0, .ref o), (1, .int x1), (2, .int x2), (3, .int x3)] [] (n, sh, Rf, I, L) post) : ∀ (k : Nat) {x1 : Int32} {x2 : Int32} {x3 : Int32} {x4 : Int32} {I : Nat → Nat → Int32} {L : Nat → Nat → Int64}, RI R I → Fm (fun c => c = o ∨ c = o + 34 ∨ (o + 42 ≤ c ∧ c < o + 68) ∨ (o + 70 ≤ c ∧ c < o + 75)) I0 I → ((0 : Int) ≤ x4.toInt ∧ x4.toInt ≤ 3) → ((I o 106).toInt ≠ 4) → ((I o 57).toInt ≤ 239) → ((240 - (I o 57).toInt).toNat < k19 + 1) → (x1 = p1) → (x2 = p2) → (x3 = p3) → (MTd I o) → (MFac I o) → (Pap I o) → (Lot I o) → (JB I o 0) → (3 - x4.toInt).toNat < k → Ev (qGG D cA b E) mModel_live 9 (0, 0) 50 [(0, .ref o), (1, .int x1), (2, .int x2), (3, .int x3), (4, .int x4)] [] (n, sh, Rf, I, L) post := by
  intro k
  induction k with
  | zero =>
    intro x1 x2 x3 x4 I L hR hf hi0 hi1 hi2 hi3 hi4 hi5 hi6 hi7 hi8 hi9 hi10 hi11 hm
    exact absurd hm (Nat.not_lt_zero _)
  | succ k ih =>
    intro x1 x2 x3 x4 I L hR hf hi0 hi1 hi2 hi3 hi4 hi5 hi6 hi7 hi8 hi9 hi10 hi11 hm
    have hz0 := hi4.symm
    subst hz0
    have hz1 := hi5.symm
    subst hz1
    have hz2 := hi6.symm
    subst hz2
    have g_112 : (0 : Int) ≤ (I o 106).toInt ∧ (I o 106).toInt ≤ 5 := hR.at0 ra 106 (by decide)
    have g_113 : (0 : Int) ≤ (I0 o 106).toInt ∧ (I0 o 106).toInt ≤ 5 := hR0.at0 ra 106 (by decide)
    have g_114 : (0 : Int) ≤ (I o 57).toInt ∧ (I o 57).toInt ≤ 240 := hR.at0 ra 57 (by decide)
    have g_115 : (0 : Int) ≤ (I0 o 57).toInt ∧ (I0 o 57).toInt ≤ 240 := hR0.at0 ra 57 (by decide)
    have g_116 : (0 : Int) ≤ (I o 104).toInt ∧ (I o 104).toInt ≤ 2000 := hR.at0 ra 104 (by decide)
    have g_117 : (0 : Int) ≤ (I0 o 104).toInt ∧ (I0 o 104).toInt ≤ 2000 := hR0.at0 ra 104 (by decide)
    have g_118 : (0 : Int) ≤ (I o 105).toInt ∧ (I o 105).toInt ≤ 4000 := hR.at0 ra 105 (by decide)
    have g_119 : (0 : Int) ≤ (I0 o 105).toInt ∧ (I0 o 105).toInt ≤ 4000 := hR0.at0 ra 105 (by decide)
    refine sModel_live_50 o n sh Rf I L post p1 p2 p3 x4 hok hw ?_
    unfold fModel_live_50
    refine y_Model_pans hok hw ra hR (fun r_120 u_121 => ⟨r_120, I, L, rfl, rfl, ?_⟩)
    refine ⟨fun c_122 => ?_, fun c_122 => ?_⟩
    · have d_123 := iLe c_122
      refine y_Model_eat hok hw ra hR (fun I_125 L_126 hR_127 fr_128 kp_129  => ⟨I_125, L_126, rfl, rfl, ?_⟩)
      have hf_130 : Fm (fun c => c = o ∨ c = o + 34 ∨ (o + 42 ≤ c ∧ c < o + 68) ∨ (o + 70 ≤ c ∧ c < o + 75)) I0 I_125 := hf.call fr_128 (fun c hc => by first | exact hc | (dsimp only at hc ⊢; omega) | omega)
      have t_131 : (I_125 o 106).toInt = (I o 106).toInt := by rw [kp_129 106 rfl]
      have t_132 : (I_125 o 57).toInt = (I o 57).toInt := by rw [kp_129 57 rfl]
      have t_133 : (I_125 o 104).toInt = (I o 104).toInt := by rw [kp_129 104 rfl]
      have t_134 : (I_125 o 105).toInt = (I o 105).toInt := by rw [kp_129 105 rfl]
      have k_135 : MTd I_125 o := hi7.fr (fr_128 _ (by first | omega | (dsimp only; omega))) (fr_128 _ (by first | omega | (dsimp only; omega))) (fr_128 _ (by first | omega | (dsimp only; omega)))
      have k_136 : MFac I_125 o := hi8.fr (fr_128 _ (by first | omega | (dsimp only; omega))) (fr_128 _ (by first | omega | (dsimp only; omega))) (kp_129 67 rfl)
      have k_137 : Pap I_125 o := hi9.fr (fr_128 _ (by first | omega | (dsimp only; omega))) (fr_128 _ (by first | omega | (dsimp only; omega))) (fr_128 _ (by first | omega | (dsimp only; omega))) (kp_129 104 rfl)
      have k_138 : Lot I_125 o := hi10.fr (fr_128 _ (by first | omega | (dsimp only; omega))) (fr_128 _ (by first | omega | (dsimp only; omega))) (kp_129 105 rfl)
      have k_139 : JB I_125 o 0 := hi11.fr (fr_128 _ (by first | omega | (dsimp only; omega))) (fr_128 _ (by first | omega | (dsimp only; omega))) (fr_128 _ (by first | omega | (dsimp only; omega))) (kp_129 57 rfl) (kp_129 104 rfl) (kp_129 105 rfl)
      refine y_Model_fillTowns hok hw ra hz121 hR_127 (fun I_141 L_142 hR_143 fr_144 kp_145  => ⟨I_141, L_142, rfl, rfl, ?_⟩)
      have hf_146 : Fm (fun c => c = o ∨ c = o + 34 ∨ (o + 42 ≤ c ∧ c < o + 68) ∨ (o + 70 ≤ c ∧ c < o + 75)) I0 I_141 := hf_130.call fr_144 (fun c hc => by first | exact hc | (dsimp only at hc ⊢; omega) | omega)
      have t_147 : (I_141 o 106).toInt = (I_125 o 106).toInt := by rw [kp_145 106 rfl]
      have t_148 : (I_141 o 57).toInt = (I_125 o 57).toInt := by rw [kp_145 57 rfl]
      have t_149 : (I_141 o 104).toInt = (I_125 o 104).toInt := by rw [kp_145 104 rfl]
      have t_150 : (I_141 o 105).toInt = (I_125 o 105).toInt := by rw [kp_145 105 rfl]
      have k_151 : MTd I_141 o := k_135.fr (fr_144 _ (by first | omega | (dsimp only; omega))) (fr_144 _ (by first | omega | (dsimp only; omega))) (fr_144 _ (by first | omega | (dsimp only; omega)))
      have k_152 : MFac I_141 o := k_136.fr (fr_144 _ (by first | omega | (dsimp only; omega))) (fr_144 _ (by first | omega | (dsimp only; omega))) (kp_145 67 rfl)
      have k_153 : Pap I_141 o := k_137.fr (fr_144 _ (by first | omega | (dsimp only; omega))) (fr_144 _ (by first | omega | (dsimp only; omega))) (fr_144 _ (by first | omega | (dsimp only; omega))) (kp_145 104 rfl)
      have k_154 : Lot I_141 o := k_138.fr (fr_144 _ (by first | omega | (dsimp only; omega))) (fr_144 _ (by first | omega | (dsimp only; omega))) (kp_145 105 rfl)
      have k_155 : JB I_141 o 0 := k_139.fr (fr_144 _ (by first | omega | (dsimp only; omega))) (fr_144 _ (by first | omega | (dsimp only; omega))) (fr_144 _ (by first | omega | (dsimp only; omega))) (kp_145 57 rfl) (kp_145 104 rfl) (kp_145 105 rfl)
      have l_156 : (0 : Int32).toInt = 0 := rfl
      exact yModel_live_82 (I0 := I0) (L0 := L0) (p1 := p1) (p2 := p2) (p3 := p3) hok hw ra hz61 hz62 hz63 hz64 hz65 hz66 hz67 hz84 hz114 hz115 hz116 hz117 hz118 hz119 hz120 hz121 hz130 hz132 hz133 hz134 hz135 hz136 hz137 hZ hR0 hq0 hq1 hq2 hq3 hp ho19 _ hR_143 hf_146 (by first | omega | (intro h; omega) | exact Or.inl rfl | exact Or.inr rfl) (by first | omega | (intro h; omega) | exact Or.inl rfl | exact Or.inr rfl) (by first | omega | (intro h; omega) | exact Or.inl rfl | exact Or.inr rfl) (by first | omega | (intro h; omega) | exact Or.inl rfl | exact Or.inr rfl) (by first | exact JX.up (False.elim (by omega)) (by omega) | exact JX.up k_155 (by omega)) rfl rfl rfl k_151 k_152 k_153 k_154 (Nat.lt_succ_self _)
    · have d_157 := iNle c_122
      refine y_Model_draw hok hw ra hz115 hz130 (by first | omega | (intro h; omega) | exact Or.inl rfl | exact Or.inr rfl) (by first | omega | (intro h; omega) | exact Or.inl rfl | exact Or.inr rfl) hi9 hi10 hi11 hR (fun I_162 L_163 hR_164 fr_165 kp_166 u_159 u_160 u_161 => ⟨I_162, L_163, rfl, rfl, ?_⟩)
      have hf_167 : Fm (fun c => c = o ∨ c = o + 34 ∨ (o + 42 ≤ c ∧ c < o + 68) ∨ (o + 70 ≤ c ∧ c < o + 75)) I0 I_162 := hf.call fr_165 (fun c hc => by first | exact hc | (dsimp only at hc ⊢; omega) | omega)
      have t_168 : (I_162 o 106).toInt = (I o 106).toInt := by rw [kp_166 106 rfl]
      have t_169 : (I_162 o 57).toInt = (I o 57).toInt := by rw [kp_166 57 rfl]
      have t_170 : (I_162 o 104).toInt = (I o 104).toInt := by rw [kp_166 104 rfl]
      have g_171 : (0 : Int) ≤ (I_162 o 105).toInt ∧ (I_162 o 105).toInt ≤ 4000 := hR_164.at0 ra 105 (by decide)
      have k_172 : MTd I_162 o := hi7.fr (fr_165 _ (by first | omega | (dsimp only; omega))) (fr_165 _ (by first | omega | (dsimp only; omega))) (fr_165 _ (by first | omega | (dsimp only; omega)))
      have k_173 : MFac I_162 o := hi8.fr (fr_165 _ (by first | omega | (dsimp only; omega))) (fr_165 _ (by first | omega | (dsimp only; omega))) (kp_166 67 rfl)
      have a_175 : (x4 + Int32.ofInt 1).toInt = x4.toInt + (1) := tIc (by omega) (by omega) (by decide) (by decide)
      generalize ez_174 : (x4 + Int32.ofInt 1) = z_174 at a_175 ⊢
      exact ih hR_164 hf_167 (by first | omega | (intro h; omega) | exact Or.inl rfl | exact Or.inr rfl) (by first | omega | (intro h; omega) | exact Or.inl rfl | exact Or.inr rfl) (by first | omega | (intro h; omega) | exact Or.inl rfl | exact Or.inr rfl) (by first | omega | (intro h; omega) | exact Or.inl rfl | exact Or.inr rfl) rfl rfl rfl k_172 k_173 u_159 u_160 u_161 (by omega)
set_option maxHeartbeats 4000000 in
set_option maxRecDepth 20000 in
theorem yModel_live_19 {D : va_G} {cA : FieldType → ClassId} {b : Nat} {E : State → Prop} {R : qRg} {o n : Nat} {sh : Nat → qC} {Rf : Nat → Nat → Option Nat} {I0 : Nat → Nat → Int32} {L0 : Nat → Nat → Int64} {post : Option Value → qS → Prop} {p1 : Int32} {p2 : Int32} {p3 : Int32} (hok : q_ok (qGG D cA b E)) (hw : WfModel (qGG D cA b E) n sh Rf o) (ra : RAModel R o) (hz61 : R.2 61 = true) (hz62 : R.2 62 = true) (hz63 : R.2 63 = true) (hz64 : R.2 64 = true) (hz65 : R.2 65 = true) (hz66 : R.2 66 = true) (hz67 : R.2 67 = true) (hz84 : R.2 84 = true) (hz114 : R.2 114 = true) (hz115 : R.2 115 = true) (hz116 : R.2 116 = true) (hz117 : R.2 117 = true) (hz118 : R.2 118 = true) (hz119 : R.2 119 = true) (hz120 : R.2 120 = true) (hz121 : R.2 121 = true) (hz130 : R.2 130 = true) (hz132 : R.2 132 = true) (hz133 : R.2 133 = true) (hz134 : R.2 134 = true) (hz135 : R.2 135 = true) (hz136 : R.2 136 = true) (hz137 : R.2 137 = true) (hZ : Fz R I0 o wModel_live) (hR0 : RI R I0) (hq0 : (0 : Int) ≤ p1.toInt ∧ p1.toInt ≤ 3) (hq1 : (0 : Int) ≤ p2.toInt ∧ p2.toInt ≤ 240) (hq2 : MTd I0 o) (hq3 : MFac I0 o) (hp : ∀ (I' : Nat → Nat → Int32) (L' : Nat → Nat → Int64), RI R I' → Fm (fun c => c = o ∨ c = o + 34 ∨ (o + 42 ≤ c ∧ c < o + 68) ∨ (o + 70 ≤ c ∧ c < o + 75)) I0 I' → (MTd I' o) → (MFac I' o) → post none (n, sh, Rf, I', L')) : ∀ (k : Nat) {x1 : Int32} {x2 : Int32} {x3 : Int32} {I : Nat → Nat → Int32} {L : Nat → Nat → Int64}, RI R I → Fm (fun c => c = o ∨ c = o + 34 ∨ (o + 42 ≤ c ∧ c < o + 68) ∨ (o + 70 ≤ c ∧ c < o + 75)) I0 I → ((I o 106).toInt ≠ 4) → (x1 = p1) → (x2 = p2) → (x3 = p3) → (MTd I o) → (MFac I o) → (Pap I o) → (Lot I o) → (JA I o) → (240 - (I o 57).toInt).toNat < k → Ev (qGG D cA b E) mModel_live 9 (0, 0) 19 [(0, .ref o), (1, .int x1), (2, .int x2), (3, .int x3)] [] (n, sh, Rf, I, L) post := by
  intro k
  induction k with
  | zero =>
    intro x1 x2 x3 I L hR hf hi0 hi1 hi2 hi3 hi4 hi5 hi6 hi7 hi8 hm
    exact absurd hm (Nat.not_lt_zero _)
  | succ k ih =>
    intro x1 x2 x3 I L hR hf hi0 hi1 hi2 hi3 hi4 hi5 hi6 hi7 hi8 hm
    have hz0 := hi1.symm
    subst hz0
    have hz1 := hi2.symm
    subst hz1
    have hz2 := hi3.symm
    subst hz2
    have g_176 : (0 : Int) ≤ (I o 106).toInt ∧ (I o 106).toInt ≤ 5 := hR.at0 ra 106 (by decide)
    have g_177 : (0 : Int) ≤ (I0 o 106).toInt ∧ (I0 o 106).toInt ≤ 5 := hR0.at0 ra 106 (by decide)
    have g_178 : (0 : Int) ≤ (I o 57).toInt ∧ (I o 57).toInt ≤ 240 := hR.at0 ra 57 (by decide)
    have g_179 : (0 : Int) ≤ (I0 o 57).toInt ∧ (I0 o 57).toInt ≤ 240 := hR0.at0 ra 57 (by decide)
    have g_180 : (0 : Int) ≤ (I o 104).toInt ∧ (I o 104).toInt ≤ 2000 := hR.at0 ra 104 (by decide)
    have g_181 : (0 : Int) ≤ (I0 o 104).toInt ∧ (I0 o 104).toInt ≤ 2000 := hR0.at0 ra 104 (by decide)
    have g_182 : (0 : Int) ≤ (I o 105).toInt ∧ (I o 105).toInt ≤ 4000 := hR.at0 ra 105 (by decide)
    have g_183 : (0 : Int) ≤ (I0 o 105).toInt ∧ (I0 o 105).toInt ≤ 4000 := hR0.at0 ra 105 (by decide)
    refine sModel_live_19 o n sh Rf I L post p1 p2 p3 hok hw ?_
    unfold fModel_live_19
    have g_184 : (0 : Int) ≤ (I o 57).toInt ∧ (I o 57).toInt ≤ 240 := hR.at0 ra 57 (by decide)
    refine ⟨fun c_185 => ?_, fun c_185 => ?_⟩
    · have d_186 := iLe c_185
      exact (hp _ _ hR hf  hi4 hi5)
    · have d_187 := iNle c_185
      refine y_Model_beginMonth hok hw ra hi6 hR (fun I_190 L_191 hR_192 fr_193 kp_194 u_189 => ⟨I_190, L_191, rfl, rfl, ?_⟩)
      have hf_195 : Fm (fun c => c = o ∨ c = o + 34 ∨ (o + 42 ≤ c ∧ c < o + 68) ∨ (o + 70 ≤ c ∧ c < o + 75)) I0 I_190 := hf.call fr_193 (fun c hc => by first | exact hc | (dsimp only at hc ⊢; omega) | omega)
      have t_196 : (I_190 o 106).toInt = (I o 106).toInt := by rw [kp_194 106 rfl]
      have t_197 : (I_190 o 57).toInt = (I o 57).toInt := by rw [kp_194 57 rfl]
      have t_198 : (I_190 o 104).toInt = (I o 104).toInt := by rw [kp_194 104 rfl]
      have t_199 : (I_190 o 105).toInt = (I o 105).toInt := by rw [kp_194 105 rfl]
      have k_200 : MTd I_190 o := hi4.fr (fr_193 _ (by first | omega | (dsimp only; omega))) (fr_193 _ (by first | omega | (dsimp only; omega))) (fr_193 _ (by first | omega | (dsimp only; omega)))
      have k_201 : MFac I_190 o := hi5.fr (fr_193 _ (by first | omega | (dsimp only; omega))) (fr_193 _ (by first | omega | (dsimp only; omega))) (kp_194 67 rfl)
      have k_202 : Lot I_190 o := hi7.fr (fr_193 _ (by first | omega | (dsimp only; omega))) (fr_193 _ (by first | omega | (dsimp only; omega))) (kp_194 105 rfl)
      have k_203 : JA I_190 o := hi8.fr (fr_193 _ (by first | omega | (dsimp only; omega))) (fr_193 _ (by first | omega | (dsimp only; omega))) (fr_193 _ (by first | omega | (dsimp only; omega))) (kp_194 57 rfl) (kp_194 104 rfl) (kp_194 105 rfl)
      refine y_Model_make hok hw ra hR_192 (fun I_205 L_206 hR_207 fr_208 kp_209  => ⟨I_205, L_206, rfl, rfl, ?_⟩)
      have hf_210 : Fm (fun c => c = o ∨ c = o + 34 ∨ (o + 42 ≤ c ∧ c < o + 68) ∨ (o + 70 ≤ c ∧ c < o + 75)) I0 I_205 := hf_195.call fr_208 (fun c hc => by first | exact hc | (dsimp only at hc ⊢; omega) | omega)
      have t_211 : (I_205 o 106).toInt = (I_190 o 106).toInt := by rw [kp_209 106 rfl]
      have t_212 : (I_205 o 57).toInt = (I_190 o 57).toInt := by rw [kp_209 57 rfl]
      have t_213 : (I_205 o 104).toInt = (I_190 o 104).toInt := by rw [kp_209 104 rfl]
      have t_214 : (I_205 o 105).toInt = (I_190 o 105).toInt := by rw [kp_209 105 rfl]
      have k_215 : MTd I_205 o := k_200.fr (fr_208 _ (by first | omega | (dsimp only; omega))) (fr_208 _ (by first | omega | (dsimp only; omega))) (fr_208 _ (by first | omega | (dsimp only; omega)))
      have k_216 : MFac I_205 o := k_201.fr (fr_208 _ (by first | omega | (dsimp only; omega))) (fr_208 _ (by first | omega | (dsimp only; omega))) (kp_209 67 rfl)
      have k_217 : Pap I_205 o := u_189.fr (fr_208 _ (by first | omega | (dsimp only; omega))) (fr_208 _ (by first | omega | (dsimp only; omega))) (fr_208 _ (by first | omega | (dsimp only; omega))) (kp_209 104 rfl)
      have k_218 : Lot I_205 o := k_202.fr (fr_208 _ (by first | omega | (dsimp only; omega))) (fr_208 _ (by first | omega | (dsimp only; omega))) (kp_209 105 rfl)
      have k_219 : JA I_205 o := k_203.fr (fr_208 _ (by first | omega | (dsimp only; omega))) (fr_208 _ (by first | omega | (dsimp only; omega))) (fr_208 _ (by first | omega | (dsimp only; omega))) (kp_209 57 rfl) (kp_209 104 rfl) (kp_209 105 rfl)
      refine y_Model_tellMonth hok hw ra hz117 hz118 hz119 hz120 (by first | omega | (intro h; omega) | exact Or.inl rfl | exact Or.inr rfl) k_215 hR_207 (fun I_222 L_223 hR_224 fr_225 kp_226 u_221 => ⟨I_222, L_223, rfl, rfl, ?_⟩)
      have hf_227 : Fm (fun c => c = o ∨ c = o + 34 ∨ (o + 42 ≤ c ∧ c < o + 68) ∨ (o + 70 ≤ c ∧ c < o + 75)) I0 I_222 := hf_210.call fr_225 (fun c hc => by first | exact hc | (dsimp only at hc ⊢; omega) | omega)
      have t_228 : (I_222 o 106).toInt = (I_205 o 106).toInt := by rw [kp_226 106 rfl]
      have t_229 : (I_222 o 57).toInt = (I_205 o 57).toInt := by rw [kp_226 57 rfl]
      have t_230 : (I_222 o 104).toInt = (I_205 o 104).toInt := by rw [kp_226 104 rfl]
      have t_231 : (I_222 o 105).toInt = (I_205 o 105).toInt := by rw [kp_226 105 rfl]
      have k_232 : MFac I_222 o := k_216.fr (fr_225 _ (by first | omega | (dsimp only; omega))) (fr_225 _ (by first | omega | (dsimp only; omega))) (kp_226 67 rfl)
      have k_233 : Pap I_222 o := k_217.fr (fr_225 _ (by first | omega | (dsimp only; omega))) (fr_225 _ (by first | omega | (dsimp only; omega))) (fr_225 _ (by first | omega | (dsimp only; omega))) (kp_226 104 rfl)
      have k_234 : Lot I_222 o := k_218.fr (fr_225 _ (by first | omega | (dsimp only; omega))) (fr_225 _ (by first | omega | (dsimp only; omega))) (kp_226 105 rfl)
      have k_235 : JA I_222 o := k_219.fr (fr_225 _ (by first | omega | (dsimp only; omega))) (fr_225 _ (by first | omega | (dsimp only; omega))) (fr_225 _ (by first | omega | (dsimp only; omega))) (kp_226 57 rfl) (kp_226 104 rfl) (kp_226 105 rfl)
      refine y_Model_comes hok hw ra hz114 (by first | omega | (intro h; omega) | exact Or.inl rfl | exact Or.inr rfl) k_233 k_234 k_235 hR_224 (fun I_240 L_241 hR_242 fr_243 kp_244 u_237 u_238 u_239 => ⟨I_240, L_241, rfl, rfl, ?_⟩)
      have hf_245 : Fm (fun c => c = o ∨ c = o + 34 ∨ (o + 42 ≤ c ∧ c < o + 68) ∨ (o + 70 ≤ c ∧ c < o + 75)) I0 I_240 := hf_227.call fr_243 (fun c hc => by first | exact hc | (dsimp only at hc ⊢; omega) | omega)
      have t_246 : (I_240 o 106).toInt = (I_222 o 106).toInt := by rw [kp_244 106 rfl]
      have t_247 : (I_240 o 57).toInt = (I_222 o 57).toInt := by rw [kp_244 57 rfl]
      have g_248 : (0 : Int) ≤ (I_240 o 104).toInt ∧ (I_240 o 104).toInt ≤ 2000 := hR_242.at0 ra 104 (by decide)
      have t_249 : (I_240 o 105).toInt = (I_222 o 105).toInt := by rw [kp_244 105 rfl]
      have k_250 : MTd I_240 o := u_221.fr (fr_243 _ (by first | omega | (dsimp only; omega))) (fr_243 _ (by first | omega | (dsimp only; omega))) (fr_243 _ (by first | omega | (dsimp only; omega)))
      have k_251 : MFac I_240 o := k_232.fr (fr_243 _ (by first | omega | (dsimp only; omega))) (fr_243 _ (by first | omega | (dsimp only; omega))) (kp_244 67 rfl)
      refine y_Model_classes hok hw ra hz63 hz64 hz65 hz66 (by first | omega | (intro h; omega) | exact Or.inl rfl | exact Or.inr rfl) k_250 hR_242 (fun I_254 L_255 hR_256 fr_257 kp_258 u_253 => ⟨I_254, L_255, rfl, rfl, ?_⟩)
      have hf_259 : Fm (fun c => c = o ∨ c = o + 34 ∨ (o + 42 ≤ c ∧ c < o + 68) ∨ (o + 70 ≤ c ∧ c < o + 75)) I0 I_254 := hf_245.call fr_257 (fun c hc => by first | exact hc | (dsimp only at hc ⊢; omega) | omega)
      have t_260 : (I_254 o 106).toInt = (I_240 o 106).toInt := by rw [kp_258 106 rfl]
      have t_261 : (I_254 o 57).toInt = (I_240 o 57).toInt := by rw [kp_258 57 rfl]
      have t_262 : (I_254 o 104).toInt = (I_240 o 104).toInt := by rw [kp_258 104 rfl]
      have t_263 : (I_254 o 105).toInt = (I_240 o 105).toInt := by rw [kp_258 105 rfl]
      have k_264 : MFac I_254 o := k_251.fr (fr_257 _ (by first | omega | (dsimp only; omega))) (fr_257 _ (by first | omega | (dsimp only; omega))) (kp_258 67 rfl)
      have k_265 : Pap I_254 o := u_237.fr (fr_257 _ (by first | omega | (dsimp only; omega))) (fr_257 _ (by first | omega | (dsimp only; omega))) (fr_257 _ (by first | omega | (dsimp only; omega))) (kp_258 104 rfl)
      have k_266 : Lot I_254 o := u_238.fr (fr_257 _ (by first | omega | (dsimp only; omega))) (fr_257 _ (by first | omega | (dsimp only; omega))) (kp_258 105 rfl)
      have k_267 : JB I_254 o 0 := u_239.fr (fr_257 _ (by first | omega | (dsimp only; omega))) (fr_257 _ (by first | omega | (dsimp only; omega))) (fr_257 _ (by first | omega | (dsimp only; omega))) (kp_258 57 rfl) (kp_258 104 rfl) (kp_258 105 rfl)
      have l_268 : (0 : Int32).toInt = 0 := rfl
      exact yModel_live_50 (I0 := I0) (L0 := L0) (p1 := p1) (p2 := p2) (p3 := p3) hok hw ra hz61 hz62 hz63 hz64 hz65 hz66 hz67 hz84 hz114 hz115 hz116 hz117 hz118 hz119 hz120 hz121 hz130 hz132 hz133 hz134 hz135 hz136 hz137 hZ hR0 hq0 hq1 hq2 hq3 hp ih _ hR_256 hf_259 (by first | omega | (intro h; omega) | exact Or.inl rfl | exact Or.inr rfl) (by first | omega | (intro h; omega) | exact Or.inl rfl | exact Or.inr rfl) (by first | omega | (intro h; omega) | exact Or.inl rfl | exact Or.inr rfl) (by first | omega | (intro h; omega) | exact Or.inl rfl | exact Or.inr rfl) rfl rfl rfl u_253 k_264 k_265 k_266 k_267 (Nat.lt_succ_self _)
set_option maxHeartbeats 4000000 in
set_option maxRecDepth 20000 in
theorem yc_Model_live {D : va_G} {cA : FieldType → ClassId} {b : Nat} {E : State → Prop} {R : qRg} {o n : Nat} {sh : Nat → qC} {Rf : Nat → Nat → Option Nat} {I0 : Nat → Nat → Int32} {L0 : Nat → Nat → Int64} {post : Option Value → qS → Prop} {p1 : Int32} {p2 : Int32} {p3 : Int32} (hok : q_ok (qGG D cA b E)) (hw : WfModel (qGG D cA b E) n sh Rf o) (ra : RAModel R o) (hz61 : R.2 61 = true) (hz62 : R.2 62 = true) (hz63 : R.2 63 = true) (hz64 : R.2 64 = true) (hz65 : R.2 65 = true) (hz66 : R.2 66 = true) (hz67 : R.2 67 = true) (hz84 : R.2 84 = true) (hz114 : R.2 114 = true) (hz115 : R.2 115 = true) (hz116 : R.2 116 = true) (hz117 : R.2 117 = true) (hz118 : R.2 118 = true) (hz119 : R.2 119 = true) (hz120 : R.2 120 = true) (hz121 : R.2 121 = true) (hz130 : R.2 130 = true) (hz132 : R.2 132 = true) (hz133 : R.2 133 = true) (hz134 : R.2 134 = true) (hz135 : R.2 135 = true) (hz136 : R.2 136 = true) (hz137 : R.2 137 = true) (hZ : Fz R I0 o wModel_live) (hR0 : RI R I0) (hq0 : (0 : Int) ≤ p1.toInt ∧ p1.toInt ≤ 3) (hq1 : (0 : Int) ≤ p2.toInt ∧ p2.toInt ≤ 240) (hq2 : MTd I0 o) (hq3 : MFac I0 o) (hR : RI R I0) (hp : ∀ (I' : Nat → Nat → Int32) (L' : Nat → Nat → Int64), RI R I' → Fm (fun c => c = o ∨ c = o + 34 ∨ (o + 42 ≤ c ∧ c < o + 68) ∨ (o + 70 ≤ c ∧ c < o + 75)) I0 I' → (MTd I' o) → (MFac I' o) → post none (n, sh, Rf, I', L')) : Ev (qGG D cA b E) mModel_live 9 (0, 0) 0 (lv_args 0 [.ref o, .int p1, .int p2, .int p3]) [] (n, sh, Rf, I0, L0) post := by
  have hf : Fm (fun c => c = o ∨ c = o + 34 ∨ (o + 42 ≤ c ∧ c < o + 68) ∨ (o + 70 ≤ c ∧ c < o + 75)) I0 I0 := Fm.rf
  have g_269 : (0 : Int) ≤ (I0 o 106).toInt ∧ (I0 o 106).toInt ≤ 5 := hR.at0 ra 106 (by decide)
  have g_270 : (0 : Int) ≤ (I0 o 57).toInt ∧ (I0 o 57).toInt ≤ 240 := hR.at0 ra 57 (by decide)
  have g_271 : (0 : Int) ≤ (I0 o 104).toInt ∧ (I0 o 104).toInt ≤ 2000 := hR.at0 ra 104 (by decide)
  have g_272 : (0 : Int) ≤ (I0 o 105).toInt ∧ (I0 o 105).toInt ≤ 4000 := hR.at0 ra 105 (by decide)
  refine sModel_live_0 o n sh Rf I0 L0 post p1 p2 p3 hok hw ?_
  unfold fModel_live_0
  refine fun I_273 e_274 => ?_
  have hR_275 : RI R I_273 := hR.up0 (k := 106) ra (by decide) (Or.inr hz116) e_274 (show (0 : Int) ≤ p1.toInt by omega) (show p1.toInt ≤ (5 : Int) by omega)
  have hf_276 : Fm (fun c => c = o ∨ c = o + 34 ∨ (o + 42 ≤ c ∧ c < o + 68) ∨ (o + 70 ≤ c ∧ c < o + 75)) I0 I_273 := hf.set (by first | rfl | omega | (dsimp only; omega)) e_274
  have t_277 : (I_273 o 106).toInt = p1.toInt := by rw [← e_274, q_u_at]
  have t_278 : (I_273 o 57).toInt = (I0 o 57).toInt := by rw [← e_274, q_u_k (by decide)]
  have t_279 : (I_273 o 104).toInt = (I0 o 104).toInt := by rw [← e_274, q_u_k (by decide)]
  have t_280 : (I_273 o 105).toInt = (I0 o 105).toInt := by rw [← e_274, q_u_k (by decide)]
  have k_281 : MTd I_273 o := hq2.fr (by rw [← e_274]; exact q_u_ne (by omega)) (by rw [← e_274]; exact q_u_ne (by omega)) (by rw [← e_274]; exact q_u_ne (by omega))
  have k_282 : MFac I_273 o := hq3.fr (by rw [← e_274]; exact q_u_ne (by omega)) (by rw [← e_274]; exact q_u_ne (by omega)) (by rw [← e_274, q_u_k (by decide)])
  refine fun I_283 e_284 => ?_
  have hR_285 : RI R I_283 := hR_275.up0 (k := 74) ra (by decide) (Or.inr hz84) e_284 (i_lo _) (i_hi _)
  have hf_286 : Fm (fun c => c = o ∨ c = o + 34 ∨ (o + 42 ≤ c ∧ c < o + 68) ∨ (o + 70 ≤ c ∧ c < o + 75)) I0 I_283 := hf_276.set (by first | rfl | omega | (dsimp only; omega)) e_284
  have t_287 : (I_283 o 106).toInt = (I_273 o 106).toInt := by rw [← e_284, q_u_k (by decide)]
  have t_288 : (I_283 o 57).toInt = (I_273 o 57).toInt := by rw [← e_284, q_u_k (by decide)]
  have t_289 : (I_283 o 104).toInt = (I_273 o 104).toInt := by rw [← e_284, q_u_k (by decide)]
  have t_290 : (I_283 o 105).toInt = (I_273 o 105).toInt := by rw [← e_284, q_u_k (by decide)]
  have k_291 : MTd I_283 o := k_281.fr (by rw [← e_284]; exact q_u_ne (by omega)) (by rw [← e_284]; exact q_u_ne (by omega)) (by rw [← e_284]; exact q_u_ne (by omega))
  have k_292 : MFac I_283 o := k_282.fr (by rw [← e_284]; exact q_u_ne (by omega)) (by rw [← e_284]; exact q_u_ne (by omega)) (by rw [← e_284, q_u_k (by decide)])
  refine y_Model_clear hok hw ra hz114 hz115 k_292 hR_285 (fun I_297 L_298 hR_299 fr_300 kp_301 u_294 u_295 u_296 => ⟨I_297, L_298, rfl, rfl, ?_⟩)
  have hf_302 : Fm (fun c => c = o ∨ c = o + 34 ∨ (o + 42 ≤ c ∧ c < o + 68) ∨ (o + 70 ≤ c ∧ c < o + 75)) I0 I_297 := hf_286.call fr_300 (fun c hc => by first | exact hc | (dsimp only at hc ⊢; omega) | omega)
  have t_303 : (I_297 o 106).toInt = (I_283 o 106).toInt := by rw [kp_301 106 rfl]
  have t_304 : (I_297 o 57).toInt = (I_283 o 57).toInt := by rw [kp_301 57 rfl]
  have g_305 : (0 : Int) ≤ (I_297 o 104).toInt ∧ (I_297 o 104).toInt ≤ 2000 := hR_299.at0 ra 104 (by decide)
  have g_306 : (0 : Int) ≤ (I_297 o 105).toInt ∧ (I_297 o 105).toInt ≤ 4000 := hR_299.at0 ra 105 (by decide)
  have k_307 : MTd I_297 o := k_291.fr (fr_300 _ (by first | omega | (dsimp only; omega))) (fr_300 _ (by first | omega | (dsimp only; omega))) (fr_300 _ (by first | omega | (dsimp only; omega)))
  have k_308 : Pap I_297 o := by intro p hp; exfalso; omega
  have k_309 : Lot I_297 o := by intro p hp; exfalso; omega
  have l_310 : (0 : Int32).toInt = 0 := rfl
  refine fun I_311 e_312 => ?_
  have hR_313 : RI R I_311 := hR_299.up0 (k := 57) ra (by decide) (Or.inr hz67) e_312 (show (0 : Int) ≤ (0 : Int32).toInt by omega) (show (0 : Int32).toInt ≤ (240 : Int) by omega)
  have hf_314 : Fm (fun c => c = o ∨ c = o + 34 ∨ (o + 42 ≤ c ∧ c < o + 68) ∨ (o + 70 ≤ c ∧ c < o + 75)) I0 I_311 := hf_302.set (by first | rfl | omega | (dsimp only; omega)) e_312
  have t_315 : (I_311 o 106).toInt = (I_297 o 106).toInt := by rw [← e_312, q_u_k (by decide)]
  have t_316 : (I_311 o 57).toInt = (0 : Int32).toInt := by rw [← e_312, q_u_at]
  have t_317 : (I_311 o 104).toInt = (I_297 o 104).toInt := by rw [← e_312, q_u_k (by decide)]
  have t_318 : (I_311 o 105).toInt = (I_297 o 105).toInt := by rw [← e_312, q_u_k (by decide)]
  have k_319 : MTd I_311 o := k_307.fr (by rw [← e_312]; exact q_u_ne (by omega)) (by rw [← e_312]; exact q_u_ne (by omega)) (by rw [← e_312]; exact q_u_ne (by omega))
  have k_320 : MFac I_311 o := u_296.fr (by rw [← e_312]; exact q_u_ne (by omega)) (by rw [← e_312]; exact q_u_ne (by omega)) (by rw [← e_312, q_u_k (by decide)])
  have k_321 : Pap I_311 o := k_308.fr (by rw [← e_312]; exact q_u_ne (by omega)) (by rw [← e_312]; exact q_u_ne (by omega)) (by rw [← e_312]; exact q_u_ne (by omega)) (by rw [← e_312, q_u_k (by decide)])
  have k_322 : Lot I_311 o := k_309.fr (by rw [← e_312]; exact q_u_ne (by omega)) (by rw [← e_312]; exact q_u_ne (by omega)) (by rw [← e_312, q_u_k (by decide)])
  have k_323 : JA I_311 o := by exact JA.zero (by omega) (by omega) (by omega)
  exact yModel_live_19 (I0 := I0) (L0 := L0) (p1 := p1) (p2 := p2) (p3 := p3) hok hw ra hz61 hz62 hz63 hz64 hz65 hz66 hz67 hz84 hz114 hz115 hz116 hz117 hz118 hz119 hz120 hz121 hz130 hz132 hz133 hz134 hz135 hz136 hz137 hZ hR0 hq0 hq1 hq2 hq3 hp  _ hR_313 hf_314 (by first | omega | (intro h; omega) | exact Or.inl rfl | exact Or.inr rfl) rfl rfl rfl k_319 k_320 k_321 k_322 k_323 (Nat.lt_succ_self _)
theorem y_Model_live {D : va_G} {cA : FieldType → ClassId} {b : Nat} {E : State → Prop} {R : qRg} {o n : Nat} {sh : Nat → qC} {Rf : Nat → Nat → Option Nat} {I0 : Nat → Nat → Int32} {L0 : Nat → Nat → Int64} {post : Option Value → qS → Prop} {p1 : Int32} {p2 : Int32} {p3 : Int32} (hok : q_ok (qGG D cA b E)) (hw : WfModel (qGG D cA b E) n sh Rf o) (ra : RAModel R o) (hz61 : R.2 61 = true) (hz62 : R.2 62 = true) (hz63 : R.2 63 = true) (hz64 : R.2 64 = true) (hz65 : R.2 65 = true) (hz66 : R.2 66 = true) (hz67 : R.2 67 = true) (hz84 : R.2 84 = true) (hz114 : R.2 114 = true) (hz115 : R.2 115 = true) (hz116 : R.2 116 = true) (hz117 : R.2 117 = true) (hz118 : R.2 118 = true) (hz119 : R.2 119 = true) (hz120 : R.2 120 = true) (hz121 : R.2 121 = true) (hz130 : R.2 130 = true) (hz132 : R.2 132 = true) (hz133 : R.2 133 = true) (hz134 : R.2 134 = true) (hz135 : R.2 135 = true) (hz136 : R.2 136 = true) (hz137 : R.2 137 = true) (hq0 : (0 : Int) ≤ p1.toInt ∧ p1.toInt ≤ 3) (hq1 : (0 : Int) ≤ p2.toInt ∧ p2.toInt ≤ 240) (hq2 : MTd I0 o) (hq3 : MFac I0 o) (hR : RI R I0) (hp : ∀ (I' : Nat → Nat → Int32) (L' : Nat → Nat → Int64), RI R I' → Fm (fun c => c = o ∨ c = o + 34 ∨ (o + 42 ≤ c ∧ c < o + 68) ∨ (o + 70 ≤ c ∧ c < o + 75)) I0 I' → Kp wModel_live I0 I' o → (MTd I' o) → (MFac I' o) → post none (n, sh, Rf, I', L')) : Ev (qGG D cA b E) mModel_live 9 (0, 0) 0 (lv_args 0 [.ref o, .int p1, .int p2, .int p3]) [] (n, sh, Rf, I0, L0) post :=
  yc_Model_live (R := fzR R I0 o wModel_live) hok hw (fzA ra hR _) (fzT hz61 rfl) (fzT hz62 rfl) (fzT hz63 rfl) (fzT hz64 rfl) (fzT hz65 rfl) (fzT hz66 rfl) (fzT hz67 rfl) (fzT hz84 rfl) (fzT hz114 rfl) (fzT hz115 rfl) (fzT hz116 rfl) (fzT hz117 rfl) (fzT hz118 rfl) (fzT hz119 rfl) (fzT hz120 rfl) (fzT hz121 rfl) (fzT hz130 rfl) (fzT hz132 rfl) (fzT hz133 rfl) (fzT hz134 rfl) (fzT hz135 rfl) (fzT hz136 rfl) (fzT hz137 rfl) fzZ (fzI hR) hq0 hq1 hq2 hq3 (fzI hR) (fun I' L' h1 h2 u0 u1 => hp I' L' (fzB hR h1) h2 (fzP h1) u0 u1)
def wModel_run : Nat → Bool := fun j => Nat.beq j 61 || Nat.beq j 62 || Nat.beq j 63 || Nat.beq j 64 || Nat.beq j 65 || Nat.beq j 66 || Nat.beq j 67 || Nat.beq j 84 || Nat.beq j 114 || Nat.beq j 115 || Nat.beq j 116 || Nat.beq j 117 || Nat.beq j 118 || Nat.beq j 119 || Nat.beq j 120 || Nat.beq j 121 || Nat.beq j 130 || Nat.beq j 132 || Nat.beq j 133 || Nat.beq j 134 || Nat.beq j 135 || Nat.beq j 136 || Nat.beq j 137 || Nat.beq j 145 || Nat.beq j 146 || Nat.beq j 147 || Nat.beq j 173 || false
set_option maxHeartbeats 4000000 in
set_option maxRecDepth 20000 in
theorem yc_Model_run {D : va_G} {cA : FieldType → ClassId} {b : Nat} {E : State → Prop} {R : qRg} {o n : Nat} {sh : Nat → qC} {Rf : Nat → Nat → Option Nat} {I0 : Nat → Nat → Int32} {L0 : Nat → Nat → Int64} {post : Option Value → qS → Prop} {p1 : Int32} {p2 : Int32} {p3 : Int32} (hok : q_ok (qGG D cA b E)) (hw : WfModel (qGG D cA b E) n sh Rf o) (ra : RAModel R o) (hz61 : R.2 61 = true) (hz62 : R.2 62 = true) (hz63 : R.2 63 = true) (hz64 : R.2 64 = true) (hz65 : R.2 65 = true) (hz66 : R.2 66 = true) (hz67 : R.2 67 = true) (hz84 : R.2 84 = true) (hz114 : R.2 114 = true) (hz115 : R.2 115 = true) (hz116 : R.2 116 = true) (hz117 : R.2 117 = true) (hz118 : R.2 118 = true) (hz119 : R.2 119 = true) (hz120 : R.2 120 = true) (hz121 : R.2 121 = true) (hz130 : R.2 130 = true) (hz132 : R.2 132 = true) (hz133 : R.2 133 = true) (hz134 : R.2 134 = true) (hz135 : R.2 135 = true) (hz136 : R.2 136 = true) (hz137 : R.2 137 = true) (hz145 : R.2 145 = true) (hz146 : R.2 146 = true) (hz147 : R.2 147 = true) (hz173 : R.2 173 = true) (hZ : Fz R I0 o wModel_run) (hR0 : RI R I0) (hq0 : MTd I0 o) (hq1 : MFac I0 o) (hR : RI R I0) (hp : ∀ (r : Int32) (I' : Nat → Nat → Int32) (L' : Nat → Nat → Int64), RI R I' → Fm (fun c => c = o ∨ (o + 26 ≤ c ∧ c < o + 32) ∨ c = o + 34 ∨ (o + 42 ≤ c ∧ c < o + 68) ∨ (o + 70 ≤ c ∧ c < o + 75) ∨ (o + 81 ≤ c ∧ c < o + 98)) I0 I' → (MTd I' o) → (MFac I' o) → post (some (.int r)) (n, sh, Rf, I', L')) : Ev (qGG D cA b E) mModel_run 10 (0, 0) 0 (lv_args 0 [.ref o, .int p1, .int p2, .int p3]) [] (n, sh, Rf, I0, L0) post := by
  have hf : Fm (fun c => c = o ∨ (o + 26 ≤ c ∧ c < o + 32) ∨ c = o + 34 ∨ (o + 42 ≤ c ∧ c < o + 68) ∨ (o + 70 ≤ c ∧ c < o + 75) ∨ (o + 81 ≤ c ∧ c < o + 98)) I0 I0 := Fm.rf
  refine sModel_run_0 o n sh Rf I0 L0 post p1 p2 p3 hok hw ?_
  unfold fModel_run_0
  have l_1 : (0 : Int32).toInt = 0 := rfl
  have l_2 : (3 : Int32).toInt = 3 := rfl
  refine y_Model_isIn hok hR (fun r_3 u_4 u_5 u_6 => ⟨r_3, I0, L0, rfl, rfl, ?_⟩)
  have b_7 : 0 ≤ r_3.toInt ∧ r_3.toInt ≤ 1 := u_4.rg
  refine ⟨fun c_8 => ?_, fun c_8 => ?_⟩
  · have d_9 := iEq c_8
    have l_10 : (-1 : Int32).toInt = -1 := rfl
    exact (hp _ _ _ hR hf  hq0 hq1)
  · have d_11 := iNe c_8
    have i_12 := u_5 (by omega)
    have l_13 : (240 : Int32).toInt = 240 := rfl
    refine y_Model_isIn hok hR (fun r_14 u_15 u_16 u_17 => ⟨r_14, I0, L0, rfl, rfl, ?_⟩)
    have b_18 : 0 ≤ r_14.toInt ∧ r_14.toInt ≤ 1 := u_15.rg
    refine ⟨fun c_19 => ?_, fun c_19 => ?_⟩
    · have d_20 := iNe c_19
      have i_21 := u_16 (by omega)
      refine y_Model_live hok hw ra hz61 hz62 hz63 hz64 hz65 hz66 hz67 hz84 hz114 hz115 hz116 hz117 hz118 hz119 hz120 hz121 hz130 hz132 hz133 hz134 hz135 hz136 hz137 (by first | omega | (intro h; omega) | exact Or.inl rfl | exact Or.inr rfl) (by first | omega | (intro h; omega) | exact Or.inl rfl | exact Or.inr rfl) hq0 hq1 hR (fun I_25 L_26 hR_27 fr_28 kp_29 u_23 u_24 => ⟨I_25, L_26, rfl, rfl, ?_⟩)
      have hf_30 : Fm (fun c => c = o ∨ (o + 26 ≤ c ∧ c < o + 32) ∨ c = o + 34 ∨ (o + 42 ≤ c ∧ c < o + 68) ∨ (o + 70 ≤ c ∧ c < o + 75) ∨ (o + 81 ≤ c ∧ c < o + 98)) I0 I_25 := hf.call fr_28 (fun c hc => by first | exact hc | (dsimp only at hc ⊢; omega) | omega)
      have l_31 : (1 : Int32).toInt = 1 := rfl
      refine fun I_32 e_33 => ?_
      have hR_34 : RI R I_32 := hR_27.up0 (k := 135) ra (by decide) (Or.inr hz145) e_33 (i_lo _) (i_hi _)
      have hf_35 : Fm (fun c => c = o ∨ (o + 26 ≤ c ∧ c < o + 32) ∨ c = o + 34 ∨ (o + 42 ≤ c ∧ c < o + 68) ∨ (o + 70 ≤ c ∧ c < o + 75) ∨ (o + 81 ≤ c ∧ c < o + 98)) I0 I_32 := hf_30.set (by first | rfl | omega | (dsimp only; omega)) e_33
      have k_36 : MTd I_32 o := u_23.fr (by rw [← e_33]; exact q_u_ne (by omega)) (by rw [← e_33]; exact q_u_ne (by omega)) (by rw [← e_33]; exact q_u_ne (by omega))
      have k_37 : MFac I_32 o := u_24.fr (by rw [← e_33]; exact q_u_ne (by omega)) (by rw [← e_33]; exact q_u_ne (by omega)) (by rw [← e_33, q_u_k (by decide)])
      refine fun I_38 e_39 => ?_
      have hR_40 : RI R I_38 := hR_34.up0 (k := 136) ra (by decide) (Or.inr hz146) e_39 (show (0 : Int) ≤ p2.toInt by omega) (show p2.toInt ≤ (240 : Int) by omega)
      have hf_41 : Fm (fun c => c = o ∨ (o + 26 ≤ c ∧ c < o + 32) ∨ c = o + 34 ∨ (o + 42 ≤ c ∧ c < o + 68) ∨ (o + 70 ≤ c ∧ c < o + 75) ∨ (o + 81 ≤ c ∧ c < o + 98)) I0 I_38 := hf_35.set (by first | rfl | omega | (dsimp only; omega)) e_39
      have t_42 : (I_38 o 136).toInt = p2.toInt := by rw [← e_39, q_u_at]
      have k_43 : MTd I_38 o := k_36.fr (by rw [← e_39]; exact q_u_ne (by omega)) (by rw [← e_39]; exact q_u_ne (by omega)) (by rw [← e_39]; exact q_u_ne (by omega))
      have k_44 : MFac I_38 o := k_37.fr (by rw [← e_39]; exact q_u_ne (by omega)) (by rw [← e_39]; exact q_u_ne (by omega)) (by rw [← e_39, q_u_k (by decide)])
      have g_45 : (0 : Int) ≤ (I_38 o 66).toInt ∧ (I_38 o 66).toInt ≤ 6 := hR_40.at0 ra 66 (by decide)
      refine fun I_46 e_47 => ?_
      have hR_48 : RI R I_46 := hR_40.up0 (k := 137) ra (by decide) (Or.inr hz147) e_47 (show (0 : Int) ≤ (I_38 o 66).toInt by omega) (show (I_38 o 66).toInt ≤ (6 : Int) by omega)
      have hf_49 : Fm (fun c => c = o ∨ (o + 26 ≤ c ∧ c < o + 32) ∨ c = o + 34 ∨ (o + 42 ≤ c ∧ c < o + 68) ∨ (o + 70 ≤ c ∧ c < o + 75) ∨ (o + 81 ≤ c ∧ c < o + 98)) I0 I_46 := hf_41.set (by first | rfl | omega | (dsimp only; omega)) e_47
      have t_50 : (I_46 o 136).toInt = (I_38 o 136).toInt := by rw [← e_47, q_u_k (by decide)]
      have t_51 : (I_46 o 66).toInt = (I_38 o 66).toInt := by rw [← e_47, q_u_k (by decide)]
      have t_52 : (I_46 o 137).toInt = (I_38 o 66).toInt := by rw [← e_47, q_u_at]
      have k_53 : MTd I_46 o := k_43.fr (by rw [← e_47]; exact q_u_ne (by omega)) (by rw [← e_47]; exact q_u_ne (by omega)) (by rw [← e_47]; exact q_u_ne (by omega))
      have k_54 : MFac I_46 o := k_44.fr (by rw [← e_47]; exact q_u_ne (by omega)) (by rw [← e_47]; exact q_u_ne (by omega)) (by rw [← e_47, q_u_k (by decide)])
      have l_55 : (5 : Int32).toInt = 5 := rfl
      refine y_Model_lay hok hw ra (by first | omega | (intro h; omega) | exact Or.inl rfl | exact Or.inr rfl) (by first | omega | (intro h; omega) | exact Or.inl rfl | exact Or.inr rfl) (by first | omega | (intro h; omega) | exact Or.inl rfl | exact Or.inr rfl) hR_48 (fun I_60 L_61 hR_62 fr_63 kp_64 u_57 u_58 u_59 => ⟨I_60, L_61, rfl, rfl, ?_⟩)
      have hf_65 : Fm (fun c => c = o ∨ (o + 26 ≤ c ∧ c < o + 32) ∨ c = o + 34 ∨ (o + 42 ≤ c ∧ c < o + 68) ∨ (o + 70 ≤ c ∧ c < o + 75) ∨ (o + 81 ≤ c ∧ c < o + 98)) I0 I_60 := hf_49.call fr_63 (fun c hc => by first | exact hc | (dsimp only at hc ⊢; omega) | omega)
      have t_66 : (I_60 o 136).toInt = (I_46 o 136).toInt := by rw [kp_64 136 rfl]
      have t_67 : (I_60 o 66).toInt = (I_46 o 66).toInt := by rw [kp_64 66 rfl]
      have t_68 : (I_60 o 137).toInt = (I_46 o 137).toInt := by rw [kp_64 137 rfl]
      have k_69 : MFac I_60 o := k_54.fr (fr_63 _ (by first | omega | (dsimp only; omega))) (fr_63 _ (by first | omega | (dsimp only; omega))) (kp_64 67 rfl)
      have k_70 : MTd I_60 o := by exact MTd.cp k_53 (s := p1.toNatClampNeg) (k_53 _ (by have cl := tCl (x := p1) (by omega); omega) (by have cl := tCl (x := p1) (by omega); omega)) u_57 u_58 u_59
      refine y_Model_keep hok hw ra hz173 hR_62 (fun I_72 L_73 hR_74 fr_75 kp_76  => ⟨I_72, L_73, rfl, rfl, ?_⟩)
      have hf_77 : Fm (fun c => c = o ∨ (o + 26 ≤ c ∧ c < o + 32) ∨ c = o + 34 ∨ (o + 42 ≤ c ∧ c < o + 68) ∨ (o + 70 ≤ c ∧ c < o + 75) ∨ (o + 81 ≤ c ∧ c < o + 98)) I0 I_72 := hf_65.call fr_75 (fun c hc => by first | exact hc | (dsimp only at hc ⊢; omega) | omega)
      have t_78 : (I_72 o 136).toInt = (I_60 o 136).toInt := by rw [kp_76 136 rfl]
      have t_79 : (I_72 o 66).toInt = (I_60 o 66).toInt := by rw [kp_76 66 rfl]
      have t_80 : (I_72 o 137).toInt = (I_60 o 137).toInt := by rw [kp_76 137 rfl]
      have k_81 : MFac I_72 o := k_69.fr (fr_75 _ (by first | omega | (dsimp only; omega))) (fr_75 _ (by first | omega | (dsimp only; omega))) (kp_76 67 rfl)
      have k_82 : MTd I_72 o := k_70.fr (fr_75 _ (by first | omega | (dsimp only; omega))) (fr_75 _ (by first | omega | (dsimp only; omega))) (fr_75 _ (by first | omega | (dsimp only; omega)))
      have g_83 : (0 : Int) ≤ (I_72 o 104).toInt ∧ (I_72 o 104).toInt ≤ 2000 := hR_74.at0 ra 104 (by decide)
      exact (hp _ _ _ hR_74 hf_77  k_82 k_81)
    · have d_84 := iEq c_19
      have l_85 : (-1 : Int32).toInt = -1 := rfl
      exact (hp _ _ _ hR hf  hq0 hq1)
theorem y_Model_run {D : va_G} {cA : FieldType → ClassId} {b : Nat} {E : State → Prop} {R : qRg} {o n : Nat} {sh : Nat → qC} {Rf : Nat → Nat → Option Nat} {I0 : Nat → Nat → Int32} {L0 : Nat → Nat → Int64} {post : Option Value → qS → Prop} {p1 : Int32} {p2 : Int32} {p3 : Int32} (hok : q_ok (qGG D cA b E)) (hw : WfModel (qGG D cA b E) n sh Rf o) (ra : RAModel R o) (hz61 : R.2 61 = true) (hz62 : R.2 62 = true) (hz63 : R.2 63 = true) (hz64 : R.2 64 = true) (hz65 : R.2 65 = true) (hz66 : R.2 66 = true) (hz67 : R.2 67 = true) (hz84 : R.2 84 = true) (hz114 : R.2 114 = true) (hz115 : R.2 115 = true) (hz116 : R.2 116 = true) (hz117 : R.2 117 = true) (hz118 : R.2 118 = true) (hz119 : R.2 119 = true) (hz120 : R.2 120 = true) (hz121 : R.2 121 = true) (hz130 : R.2 130 = true) (hz132 : R.2 132 = true) (hz133 : R.2 133 = true) (hz134 : R.2 134 = true) (hz135 : R.2 135 = true) (hz136 : R.2 136 = true) (hz137 : R.2 137 = true) (hz145 : R.2 145 = true) (hz146 : R.2 146 = true) (hz147 : R.2 147 = true) (hz173 : R.2 173 = true) (hq0 : MTd I0 o) (hq1 : MFac I0 o) (hR : RI R I0) (hp : ∀ (r : Int32) (I' : Nat → Nat → Int32) (L' : Nat → Nat → Int64), RI R I' → Fm (fun c => c = o ∨ (o + 26 ≤ c ∧ c < o + 32) ∨ c = o + 34 ∨ (o + 42 ≤ c ∧ c < o + 68) ∨ (o + 70 ≤ c ∧ c < o + 75) ∨ (o + 81 ≤ c ∧ c < o + 98)) I0 I' → Kp wModel_run I0 I' o → (MTd I' o) → (MFac I' o) → post (some (.int r)) (n, sh, Rf, I', L')) : Ev (qGG D cA b E) mModel_run 10 (0, 0) 0 (lv_args 0 [.ref o, .int p1, .int p2, .int p3]) [] (n, sh, Rf, I0, L0) post :=
  yc_Model_run (R := fzR R I0 o wModel_run) hok hw (fzA ra hR _) (fzT hz61 rfl) (fzT hz62 rfl) (fzT hz63 rfl) (fzT hz64 rfl) (fzT hz65 rfl) (fzT hz66 rfl) (fzT hz67 rfl) (fzT hz84 rfl) (fzT hz114 rfl) (fzT hz115 rfl) (fzT hz116 rfl) (fzT hz117 rfl) (fzT hz118 rfl) (fzT hz119 rfl) (fzT hz120 rfl) (fzT hz121 rfl) (fzT hz130 rfl) (fzT hz132 rfl) (fzT hz133 rfl) (fzT hz134 rfl) (fzT hz135 rfl) (fzT hz136 rfl) (fzT hz137 rfl) (fzT hz145 rfl) (fzT hz146 rfl) (fzT hz147 rfl) (fzT hz173 rfl) fzZ (fzI hR) hq0 hq1 (fzI hR) (fun r I' L' h1 h2 u0 u1 => hp r I' L' (fzB hR h1) h2 (fzP h1) u0 u1)
def wModel_tryOut : Nat → Bool := fun j => Nat.beq j 61 || Nat.beq j 62 || Nat.beq j 63 || Nat.beq j 64 || Nat.beq j 65 || Nat.beq j 66 || Nat.beq j 67 || Nat.beq j 84 || Nat.beq j 114 || Nat.beq j 115 || Nat.beq j 116 || Nat.beq j 117 || Nat.beq j 118 || Nat.beq j 119 || Nat.beq j 120 || Nat.beq j 121 || Nat.beq j 130 || Nat.beq j 132 || Nat.beq j 133 || Nat.beq j 134 || Nat.beq j 135 || Nat.beq j 136 || Nat.beq j 137 || false
set_option maxHeartbeats 4000000 in
set_option maxRecDepth 20000 in
theorem yc_Model_tryOut {D : va_G} {cA : FieldType → ClassId} {b : Nat} {E : State → Prop} {R : qRg} {o n : Nat} {sh : Nat → qC} {Rf : Nat → Nat → Option Nat} {I0 : Nat → Nat → Int32} {L0 : Nat → Nat → Int64} {post : Option Value → qS → Prop} {p1 : Int32} {p2 : Int32} {p3 : Int32} {p4 : Int32} (hok : q_ok (qGG D cA b E)) (hw : WfModel (qGG D cA b E) n sh Rf o) (ra : RAModel R o) (hz61 : R.2 61 = true) (hz62 : R.2 62 = true) (hz63 : R.2 63 = true) (hz64 : R.2 64 = true) (hz65 : R.2 65 = true) (hz66 : R.2 66 = true) (hz67 : R.2 67 = true) (hz84 : R.2 84 = true) (hz114 : R.2 114 = true) (hz115 : R.2 115 = true) (hz116 : R.2 116 = true) (hz117 : R.2 117 = true) (hz118 : R.2 118 = true) (hz119 : R.2 119 = true) (hz120 : R.2 120 = true) (hz121 : R.2 121 = true) (hz130 : R.2 130 = true) (hz132 : R.2 132 = true) (hz133 : R.2 133 = true) (hz134 : R.2 134 = true) (hz135 : R.2 135 = true) (hz136 : R.2 136 = true) (hz137 : R.2 137 = true) (hZ : Fz R I0 o wModel_tryOut) (hR0 : RI R I0) (hq0 : (0 : Int) ≤ p1.toInt ∧ p1.toInt ≤ 1) (hq1 : (0 : Int) ≤ p2.toInt ∧ p2.toInt ≤ 3) (hq2 : (0 : Int) ≤ p3.toInt ∧ p3.toInt ≤ 240) (hq3 : MTd I0 o) (hq4 : MFac I0 o) (hR : RI R I0) (hp : ∀ (I' : Nat → Nat → Int32) (L' : Nat → Nat → Int64), RI R I' → Fm (fun c => c = o ∨ c = o + 34 ∨ (o + 42 ≤ c ∧ c < o + 68) ∨ (o + 70 ≤ c ∧ c < o + 75)) I0 I' → (MTd I' o) → (MFac I' o) → post none (n, sh, Rf, I', L')) : Ev (qGG D cA b E) mModel_tryOut 10 (0, 0) 0 (lv_args 0 [.ref o, .int p1, .int p2, .int p3, .int p4]) [] (n, sh, Rf, I0, L0) post := by
  have hf : Fm (fun c => c = o ∨ c = o + 34 ∨ (o + 42 ≤ c ∧ c < o + 68) ∨ (o + 70 ≤ c ∧ c < o + 75)) I0 I0 := Fm.rf
  refine sModel_tryOut_0 o n sh Rf I0 L0 post p1 p2 p3 p4 hok hw ?_
  unfold fModel_tryOut_0
  refine y_Model_live hok hw ra hz61 hz62 hz63 hz64 hz65 hz66 hz67 hz84 hz114 hz115 hz116 hz117 hz118 hz119 hz120 hz121 hz130 hz132 hz133 hz134 hz135 hz136 hz137 (by first | omega | (intro h; omega) | exact Or.inl rfl | exact Or.inr rfl) (by first | omega | (intro h; omega) | exact Or.inl rfl | exact Or.inr rfl) hq3 hq4 hR (fun I_4 L_5 hR_6 fr_7 kp_8 u_2 u_3 => ⟨I_4, L_5, rfl, rfl, ?_⟩)
  have hf_9 : Fm (fun c => c = o ∨ c = o + 34 ∨ (o + 42 ≤ c ∧ c < o + 68) ∨ (o + 70 ≤ c ∧ c < o + 75)) I0 I_4 := hf.call fr_7 (fun c hc => by first | exact hc | (dsimp only at hc ⊢; omega) | omega)
  refine ⟨tIn (by omega) (by omega), fun L_10 e_11 => ?_⟩
  refine ⟨tIn (by omega) (by omega), fun L_12 e_13 => ?_⟩
  refine ⟨tIn (by omega) (by omega), fun L_14 e_15 => ?_⟩
  refine ⟨tIn (by omega) (by omega), fun L_16 e_17 => ?_⟩
  exact (hp _ _ hR_6 hf_9  u_2 u_3)
theorem y_Model_tryOut {D : va_G} {cA : FieldType → ClassId} {b : Nat} {E : State → Prop} {R : qRg} {o n : Nat} {sh : Nat → qC} {Rf : Nat → Nat → Option Nat} {I0 : Nat → Nat → Int32} {L0 : Nat → Nat → Int64} {post : Option Value → qS → Prop} {p1 : Int32} {p2 : Int32} {p3 : Int32} {p4 : Int32} (hok : q_ok (qGG D cA b E)) (hw : WfModel (qGG D cA b E) n sh Rf o) (ra : RAModel R o) (hz61 : R.2 61 = true) (hz62 : R.2 62 = true) (hz63 : R.2 63 = true) (hz64 : R.2 64 = true) (hz65 : R.2 65 = true) (hz66 : R.2 66 = true) (hz67 : R.2 67 = true) (hz84 : R.2 84 = true) (hz114 : R.2 114 = true) (hz115 : R.2 115 = true) (hz116 : R.2 116 = true) (hz117 : R.2 117 = true) (hz118 : R.2 118 = true) (hz119 : R.2 119 = true) (hz120 : R.2 120 = true) (hz121 : R.2 121 = true) (hz130 : R.2 130 = true) (hz132 : R.2 132 = true) (hz133 : R.2 133 = true) (hz134 : R.2 134 = true) (hz135 : R.2 135 = true) (hz136 : R.2 136 = true) (hz137 : R.2 137 = true) (hq0 : (0 : Int) ≤ p1.toInt ∧ p1.toInt ≤ 1) (hq1 : (0 : Int) ≤ p2.toInt ∧ p2.toInt ≤ 3) (hq2 : (0 : Int) ≤ p3.toInt ∧ p3.toInt ≤ 240) (hq3 : MTd I0 o) (hq4 : MFac I0 o) (hR : RI R I0) (hp : ∀ (I' : Nat → Nat → Int32) (L' : Nat → Nat → Int64), RI R I' → Fm (fun c => c = o ∨ c = o + 34 ∨ (o + 42 ≤ c ∧ c < o + 68) ∨ (o + 70 ≤ c ∧ c < o + 75)) I0 I' → Kp wModel_tryOut I0 I' o → (MTd I' o) → (MFac I' o) → post none (n, sh, Rf, I', L')) : Ev (qGG D cA b E) mModel_tryOut 10 (0, 0) 0 (lv_args 0 [.ref o, .int p1, .int p2, .int p3, .int p4]) [] (n, sh, Rf, I0, L0) post :=
  yc_Model_tryOut (R := fzR R I0 o wModel_tryOut) hok hw (fzA ra hR _) (fzT hz61 rfl) (fzT hz62 rfl) (fzT hz63 rfl) (fzT hz64 rfl) (fzT hz65 rfl) (fzT hz66 rfl) (fzT hz67 rfl) (fzT hz84 rfl) (fzT hz114 rfl) (fzT hz115 rfl) (fzT hz116 rfl) (fzT hz117 rfl) (fzT hz118 rfl) (fzT hz119 rfl) (fzT hz120 rfl) (fzT hz121 rfl) (fzT hz130 rfl) (fzT hz132 rfl) (fzT hz133 rfl) (fzT hz134 rfl) (fzT hz135 rfl) (fzT hz136 rfl) (fzT hz137 rfl) fzZ (fzI hR) hq0 hq1 hq2 hq3 hq4 (fzI hR) (fun I' L' h1 h2 u0 u1 => hp I' L' (fzB hR h1) h2 (fzP h1) u0 u1)
def wModel_judge : Nat → Bool := fun j => Nat.beq j 61 || Nat.beq j 62 || Nat.beq j 63 || Nat.beq j 64 || Nat.beq j 65 || Nat.beq j 66 || Nat.beq j 67 || Nat.beq j 84 || Nat.beq j 114 || Nat.beq j 115 || Nat.beq j 116 || Nat.beq j 117 || Nat.beq j 118 || Nat.beq j 119 || Nat.beq j 120 || Nat.beq j 121 || Nat.beq j 130 || Nat.beq j 132 || Nat.beq j 133 || Nat.beq j 134 || Nat.beq j 135 || Nat.beq j 136 || Nat.beq j 137 || false
set_option maxHeartbeats 4000000 in
set_option maxRecDepth 20000 in
theorem yc_Model_judge {D : va_G} {cA : FieldType → ClassId} {b : Nat} {E : State → Prop} {R : qRg} {o n : Nat} {sh : Nat → qC} {Rf : Nat → Nat → Option Nat} {I0 : Nat → Nat → Int32} {L0 : Nat → Nat → Int64} {post : Option Value → qS → Prop} {p1 : Int32} {p2 : Int32} {p3 : Int32} {p4 : Int32} (hok : q_ok (qGG D cA b E)) (hw : WfModel (qGG D cA b E) n sh Rf o) (ra : RAModel R o) (hz61 : R.2 61 = true) (hz62 : R.2 62 = true) (hz63 : R.2 63 = true) (hz64 : R.2 64 = true) (hz65 : R.2 65 = true) (hz66 : R.2 66 = true) (hz67 : R.2 67 = true) (hz84 : R.2 84 = true) (hz114 : R.2 114 = true) (hz115 : R.2 115 = true) (hz116 : R.2 116 = true) (hz117 : R.2 117 = true) (hz118 : R.2 118 = true) (hz119 : R.2 119 = true) (hz120 : R.2 120 = true) (hz121 : R.2 121 = true) (hz130 : R.2 130 = true) (hz132 : R.2 132 = true) (hz133 : R.2 133 = true) (hz134 : R.2 134 = true) (hz135 : R.2 135 = true) (hz136 : R.2 136 = true) (hz137 : R.2 137 = true) (hZ : Fz R I0 o wModel_judge) (hR0 : RI R I0) (hq0 : MTd I0 o) (hq1 : MFac I0 o) (hR : RI R I0) (hp : ∀ (r : Int32) (I' : Nat → Nat → Int32) (L' : Nat → Nat → Int64), RI R I' → Fm (fun c => c = o ∨ c = o + 34 ∨ (o + 42 ≤ c ∧ c < o + 68) ∨ (o + 70 ≤ c ∧ c < o + 75)) I0 I' → (MTd I' o) → (MFac I' o) → post (some (.int r)) (n, sh, Rf, I', L')) : Ev (qGG D cA b E) mModel_judge 11 (0, 0) 0 (lv_args 0 [.ref o, .int p1, .int p2, .int p3, .int p4]) [] (n, sh, Rf, I0, L0) post := by
  have hf : Fm (fun c => c = o ∨ c = o + 34 ∨ (o + 42 ≤ c ∧ c < o + 68) ∨ (o + 70 ≤ c ∧ c < o + 75)) I0 I0 := Fm.rf
  refine sModel_judge_0 o n sh Rf I0 L0 post p1 p2 p3 p4 hok hw ?_
  unfold fModel_judge_0
  have l_1 : (0 : Int32).toInt = 0 := rfl
  have l_2 : (3 : Int32).toInt = 3 := rfl
  refine y_Model_isIn hok hR (fun r_3 u_4 u_5 u_6 => ⟨r_3, I0, L0, rfl, rfl, ?_⟩)
  have b_7 : 0 ≤ r_3.toInt ∧ r_3.toInt ≤ 1 := u_4.rg
  refine ⟨fun c_8 => ?_, fun c_8 => ?_⟩
  · have d_9 := iEq c_8
    have l_10 : (-1 : Int32).toInt = -1 := rfl
    exact (hp _ _ _ hR hf  hq0 hq1)
  · have d_11 := iNe c_8
    have i_12 := u_5 (by omega)
    refine y_Model_isIn hok hR (fun r_13 u_14 u_15 u_16 => ⟨r_13, I0, L0, rfl, rfl, ?_⟩)
    have b_17 : 0 ≤ r_13.toInt ∧ r_13.toInt ≤ 1 := u_14.rg
    refine ⟨fun c_18 => ?_, fun c_18 => ?_⟩
    · have d_19 := iEq c_18
      have l_20 : (-1 : Int32).toInt = -1 := rfl
      exact (hp _ _ _ hR hf  hq0 hq1)
    · have d_21 := iNe c_18
      have i_22 := u_15 (by omega)
      have l_23 : (240 : Int32).toInt = 240 := rfl
      refine y_Model_isIn hok hR (fun r_24 u_25 u_26 u_27 => ⟨r_24, I0, L0, rfl, rfl, ?_⟩)
      have b_28 : 0 ≤ r_24.toInt ∧ r_24.toInt ≤ 1 := u_25.rg
      refine ⟨fun c_29 => ?_, fun c_29 => ?_⟩
      · have d_30 := iNe c_29
        have i_31 := u_26 (by omega)
        refine y_Model_tryOut hok hw ra hz61 hz62 hz63 hz64 hz65 hz66 hz67 hz84 hz114 hz115 hz116 hz117 hz118 hz119 hz120 hz121 hz130 hz132 hz133 hz134 hz135 hz136 hz137 (by first | omega | (intro h; omega) | exact Or.inl rfl | exact Or.inr rfl) (by first | omega | (intro h; omega) | exact Or.inl rfl | exact Or.inr rfl) (by first | omega | (intro h; omega) | exact Or.inl rfl | exact Or.inr rfl) hq0 hq1 hR (fun I_35 L_36 hR_37 fr_38 kp_39 u_33 u_34 => ⟨I_35, L_36, rfl, rfl, ?_⟩)
        have hf_40 : Fm (fun c => c = o ∨ c = o + 34 ∨ (o + 42 ≤ c ∧ c < o + 68) ∨ (o + 70 ≤ c ∧ c < o + 75)) I0 I_35 := hf.call fr_38 (fun c hc => by first | exact hc | (dsimp only at hc ⊢; omega) | omega)
        have l_41 : (1 : Int32).toInt = 1 := rfl
        refine y_Model_tryOut hok hw ra hz61 hz62 hz63 hz64 hz65 hz66 hz67 hz84 hz114 hz115 hz116 hz117 hz118 hz119 hz120 hz121 hz130 hz132 hz133 hz134 hz135 hz136 hz137 (by first | omega | (intro h; omega) | exact Or.inl rfl | exact Or.inr rfl) (by first | omega | (intro h; omega) | exact Or.inl rfl | exact Or.inr rfl) (by first | omega | (intro h; omega) | exact Or.inl rfl | exact Or.inr rfl) u_33 u_34 hR_37 (fun I_45 L_46 hR_47 fr_48 kp_49 u_43 u_44 => ⟨I_45, L_46, rfl, rfl, ?_⟩)
        have hf_50 : Fm (fun c => c = o ∨ c = o + 34 ∨ (o + 42 ≤ c ∧ c < o + 68) ∨ (o + 70 ≤ c ∧ c < o + 75)) I0 I_45 := hf_40.call fr_48 (fun c hc => by first | exact hc | (dsimp only at hc ⊢; omega) | omega)
        refine ⟨fun c_51 => ?_, fun c_51 => ?_⟩
        · have d_52 := iEq c_51
          unfold fModel_judge_60
          refine ⟨fun c_53 => ?_, fun c_53 => ?_⟩
          · have d_54 := iEq c_53
            refine ⟨fun c_55 => ?_, fun c_55 => ?_⟩
            · have d_56 := iNe c_55
              unfold fModel_judge_114
              refine ⟨fun c_57 => ?_, fun c_57 => ?_⟩
              · have d_58 := iNe c_57
                unfold fModel_judge_130
                refine ⟨fun c_59 => ?_, fun c_59 => ?_⟩
                · have d_60 := iEq c_59
                  refine ⟨fun c_61 => ?_, fun c_61 => ?_⟩
                  · have d_62 := iEq c_61
                    refine ⟨fun c_63 => ?_, fun c_63 => ?_⟩
                    · have d_64 := iLe c_63
                      refine ⟨fun c_65 => ?_, fun c_65 => ?_⟩
                      · have d_66 := iLe c_65
                        have l_67 : (2 : Int32).toInt = 2 := rfl
                        exact (hp _ _ _ hR_47 hf_50  u_43 u_44)
                      · have d_68 := iNle c_65
                        exact (hp _ _ _ hR_47 hf_50  u_43 u_44)
                    · have d_69 := iNle c_63
                      exact (hp _ _ _ hR_47 hf_50  u_43 u_44)
                  · have d_70 := iNe c_61
                    refine ⟨fun c_71 => ?_, fun c_71 => ?_⟩
                    · have d_72 := iLe c_71
                      exact (hp _ _ _ hR_47 hf_50  u_43 u_44)
                    · have d_73 := iNle c_71
                      exact (hp _ _ _ hR_47 hf_50  u_43 u_44)
                · have d_74 := iNe c_59
                  exfalso; omega
              · have d_75 := iEq c_57
                unfold fModel_judge_130
                refine ⟨fun c_76 => ?_, fun c_76 => ?_⟩
                · have d_77 := iEq c_76
                  exfalso; omega
                · have d_78 := iNe c_76
                  refine ⟨fun c_79 => ?_, fun c_79 => ?_⟩
                  · have d_80 := iLe c_79
                    exact (hp _ _ _ hR_47 hf_50  u_43 u_44)
                  · have d_81 := iNle c_79
                    exact (hp _ _ _ hR_47 hf_50  u_43 u_44)
            · have d_82 := iEq c_55
              unfold fModel_judge_114
              refine ⟨fun c_83 => ?_, fun c_83 => ?_⟩
              · have d_84 := iNe c_83
                unfold fModel_judge_130
                refine ⟨fun c_85 => ?_, fun c_85 => ?_⟩
                · have d_86 := iEq c_85
                  exfalso; omega
                · have d_87 := iNe c_85
                  refine ⟨fun c_88 => ?_, fun c_88 => ?_⟩
                  · have d_89 := iLe c_88
                    exact (hp _ _ _ hR_47 hf_50  u_43 u_44)
                  · have d_90 := iNle c_88
                    exfalso; omega
              · have d_91 := iEq c_83
                unfold fModel_judge_130
                refine ⟨fun c_92 => ?_, fun c_92 => ?_⟩
                · have d_93 := iEq c_92
                  refine ⟨fun c_94 => ?_, fun c_94 => ?_⟩
                  · have d_95 := iEq c_94
                    refine ⟨fun c_96 => ?_, fun c_96 => ?_⟩
                    · have d_97 := iLe c_96
                      refine ⟨fun c_98 => ?_, fun c_98 => ?_⟩
                      · have d_99 := iLe c_98
                        have l_100 : (2 : Int32).toInt = 2 := rfl
                        exact (hp _ _ _ hR_47 hf_50  u_43 u_44)
                      · have d_101 := iNle c_98
                        exact (hp _ _ _ hR_47 hf_50  u_43 u_44)
                    · have d_102 := iNle c_96
                      exact (hp _ _ _ hR_47 hf_50  u_43 u_44)
                  · have d_103 := iNe c_94
                    refine ⟨fun c_104 => ?_, fun c_104 => ?_⟩
                    · have d_105 := iLe c_104
                      exact (hp _ _ _ hR_47 hf_50  u_43 u_44)
                    · have d_106 := iNle c_104
                      exact (hp _ _ _ hR_47 hf_50  u_43 u_44)
                · have d_107 := iNe c_92
                  exfalso; omega
          · have d_108 := iNe c_53
            refine ⟨fun c_109 => ?_, fun c_109 => ?_⟩
            · have d_110 := iLe c_109
              exact (hp _ _ _ hR_47 hf_50  u_43 u_44)
            · have d_111 := iNle c_109
              exact (hp _ _ _ hR_47 hf_50  u_43 u_44)
        · have d_112 := iNe c_51
          refine y_Model_restore hok hw ra hz114 hR_47 (fun I_114 L_115 hR_116 fr_117 kp_118  => ⟨I_114, L_115, rfl, rfl, ?_⟩)
          have hf_119 : Fm (fun c => c = o ∨ c = o + 34 ∨ (o + 42 ≤ c ∧ c < o + 68) ∨ (o + 70 ≤ c ∧ c < o + 75)) I0 I_114 := hf_50.call fr_117 (fun c hc => by first | exact hc | (dsimp only at hc ⊢; omega) | omega)
          have k_120 : MTd I_114 o := u_43.fr (fr_117 _ (by first | omega | (dsimp only; omega))) (fr_117 _ (by first | omega | (dsimp only; omega))) (fr_117 _ (by first | omega | (dsimp only; omega)))
          have k_121 : MFac I_114 o := u_44.fr (fr_117 _ (by first | omega | (dsimp only; omega))) (fr_117 _ (by first | omega | (dsimp only; omega))) (kp_118 67 rfl)
          unfold fModel_judge_60
          refine ⟨fun c_122 => ?_, fun c_122 => ?_⟩
          · have d_123 := iEq c_122
            refine ⟨fun c_124 => ?_, fun c_124 => ?_⟩
            · have d_125 := iNe c_124
              unfold fModel_judge_114
              refine ⟨fun c_126 => ?_, fun c_126 => ?_⟩
              · have d_127 := iNe c_126
                unfold fModel_judge_130
                refine ⟨fun c_128 => ?_, fun c_128 => ?_⟩
                · have d_129 := iEq c_128
                  refine ⟨fun c_130 => ?_, fun c_130 => ?_⟩
                  · have d_131 := iEq c_130
                    refine ⟨fun c_132 => ?_, fun c_132 => ?_⟩
                    · have d_133 := iLe c_132
                      refine ⟨fun c_134 => ?_, fun c_134 => ?_⟩
                      · have d_135 := iLe c_134
                        have l_136 : (2 : Int32).toInt = 2 := rfl
                        exact (hp _ _ _ hR_116 hf_119  k_120 k_121)
                      · have d_137 := iNle c_134
                        exact (hp _ _ _ hR_116 hf_119  k_120 k_121)
                    · have d_138 := iNle c_132
                      exact (hp _ _ _ hR_116 hf_119  k_120 k_121)
                  · have d_139 := iNe c_130
                    refine ⟨fun c_140 => ?_, fun c_140 => ?_⟩
                    · have d_141 := iLe c_140
                      exact (hp _ _ _ hR_116 hf_119  k_120 k_121)
                    · have d_142 := iNle c_140
                      exact (hp _ _ _ hR_116 hf_119  k_120 k_121)
                · have d_143 := iNe c_128
                  exfalso; omega
              · have d_144 := iEq c_126
                unfold fModel_judge_130
                refine ⟨fun c_145 => ?_, fun c_145 => ?_⟩
                · have d_146 := iEq c_145
                  exfalso; omega
                · have d_147 := iNe c_145
                  refine ⟨fun c_148 => ?_, fun c_148 => ?_⟩
                  · have d_149 := iLe c_148
                    exact (hp _ _ _ hR_116 hf_119  k_120 k_121)
                  · have d_150 := iNle c_148
                    exact (hp _ _ _ hR_116 hf_119  k_120 k_121)
            · have d_151 := iEq c_124
              unfold fModel_judge_114
              refine ⟨fun c_152 => ?_, fun c_152 => ?_⟩
              · have d_153 := iNe c_152
                unfold fModel_judge_130
                refine ⟨fun c_154 => ?_, fun c_154 => ?_⟩
                · have d_155 := iEq c_154
                  exfalso; omega
                · have d_156 := iNe c_154
                  refine ⟨fun c_157 => ?_, fun c_157 => ?_⟩
                  · have d_158 := iLe c_157
                    exact (hp _ _ _ hR_116 hf_119  k_120 k_121)
                  · have d_159 := iNle c_157
                    exfalso; omega
              · have d_160 := iEq c_152
                unfold fModel_judge_130
                refine ⟨fun c_161 => ?_, fun c_161 => ?_⟩
                · have d_162 := iEq c_161
                  refine ⟨fun c_163 => ?_, fun c_163 => ?_⟩
                  · have d_164 := iEq c_163
                    refine ⟨fun c_165 => ?_, fun c_165 => ?_⟩
                    · have d_166 := iLe c_165
                      refine ⟨fun c_167 => ?_, fun c_167 => ?_⟩
                      · have d_168 := iLe c_167
                        have l_169 : (2 : Int32).toInt = 2 := rfl
                        exact (hp _ _ _ hR_116 hf_119  k_120 k_121)
                      · have d_170 := iNle c_167
                        exact (hp _ _ _ hR_116 hf_119  k_120 k_121)
                    · have d_171 := iNle c_165
                      exact (hp _ _ _ hR_116 hf_119  k_120 k_121)
                  · have d_172 := iNe c_163
                    refine ⟨fun c_173 => ?_, fun c_173 => ?_⟩
                    · have d_174 := iLe c_173
                      exact (hp _ _ _ hR_116 hf_119  k_120 k_121)
                    · have d_175 := iNle c_173
                      exact (hp _ _ _ hR_116 hf_119  k_120 k_121)
                · have d_176 := iNe c_161
                  exfalso; omega
          · have d_177 := iNe c_122
            refine ⟨fun c_178 => ?_, fun c_178 => ?_⟩
            · have d_179 := iLe c_178
              exact (hp _ _ _ hR_116 hf_119  k_120 k_121)
            · have d_180 := iNle c_178
              exact (hp _ _ _ hR_116 hf_119  k_120 k_121)
      · have d_181 := iEq c_29
        have l_182 : (-1 : Int32).toInt = -1 := rfl
        exact (hp _ _ _ hR hf  hq0 hq1)
theorem y_Model_judge {D : va_G} {cA : FieldType → ClassId} {b : Nat} {E : State → Prop} {R : qRg} {o n : Nat} {sh : Nat → qC} {Rf : Nat → Nat → Option Nat} {I0 : Nat → Nat → Int32} {L0 : Nat → Nat → Int64} {post : Option Value → qS → Prop} {p1 : Int32} {p2 : Int32} {p3 : Int32} {p4 : Int32} (hok : q_ok (qGG D cA b E)) (hw : WfModel (qGG D cA b E) n sh Rf o) (ra : RAModel R o) (hz61 : R.2 61 = true) (hz62 : R.2 62 = true) (hz63 : R.2 63 = true) (hz64 : R.2 64 = true) (hz65 : R.2 65 = true) (hz66 : R.2 66 = true) (hz67 : R.2 67 = true) (hz84 : R.2 84 = true) (hz114 : R.2 114 = true) (hz115 : R.2 115 = true) (hz116 : R.2 116 = true) (hz117 : R.2 117 = true) (hz118 : R.2 118 = true) (hz119 : R.2 119 = true) (hz120 : R.2 120 = true) (hz121 : R.2 121 = true) (hz130 : R.2 130 = true) (hz132 : R.2 132 = true) (hz133 : R.2 133 = true) (hz134 : R.2 134 = true) (hz135 : R.2 135 = true) (hz136 : R.2 136 = true) (hz137 : R.2 137 = true) (hq0 : MTd I0 o) (hq1 : MFac I0 o) (hR : RI R I0) (hp : ∀ (r : Int32) (I' : Nat → Nat → Int32) (L' : Nat → Nat → Int64), RI R I' → Fm (fun c => c = o ∨ c = o + 34 ∨ (o + 42 ≤ c ∧ c < o + 68) ∨ (o + 70 ≤ c ∧ c < o + 75)) I0 I' → Kp wModel_judge I0 I' o → (MTd I' o) → (MFac I' o) → post (some (.int r)) (n, sh, Rf, I', L')) : Ev (qGG D cA b E) mModel_judge 11 (0, 0) 0 (lv_args 0 [.ref o, .int p1, .int p2, .int p3, .int p4]) [] (n, sh, Rf, I0, L0) post :=
  yc_Model_judge (R := fzR R I0 o wModel_judge) hok hw (fzA ra hR _) (fzT hz61 rfl) (fzT hz62 rfl) (fzT hz63 rfl) (fzT hz64 rfl) (fzT hz65 rfl) (fzT hz66 rfl) (fzT hz67 rfl) (fzT hz84 rfl) (fzT hz114 rfl) (fzT hz115 rfl) (fzT hz116 rfl) (fzT hz117 rfl) (fzT hz118 rfl) (fzT hz119 rfl) (fzT hz120 rfl) (fzT hz121 rfl) (fzT hz130 rfl) (fzT hz132 rfl) (fzT hz133 rfl) (fzT hz134 rfl) (fzT hz135 rfl) (fzT hz136 rfl) (fzT hz137 rfl) fzZ (fzI hR) hq0 hq1 (fzI hR) (fun r I' L' h1 h2 u0 u1 => hp r I' L' (fzB hR h1) h2 (fzP h1) u0 u1)
def wModel_goOn : Nat → Bool := fun j => Nat.beq j 67 || Nat.beq j 116 || Nat.beq j 117 || Nat.beq j 118 || Nat.beq j 119 || Nat.beq j 120 || Nat.beq j 121 || false
set_option maxHeartbeats 4000000 in
set_option maxRecDepth 20000 in
theorem yc_Model_goOn {D : va_G} {cA : FieldType → ClassId} {b : Nat} {E : State → Prop} {R : qRg} {o n : Nat} {sh : Nat → qC} {Rf : Nat → Nat → Option Nat} {I0 : Nat → Nat → Int32} {L0 : Nat → Nat → Int64} {post : Option Value → qS → Prop} (hok : q_ok (qGG D cA b E)) (hw : WfModel (qGG D cA b E) n sh Rf o) (ra : RAModel R o) (hz67 : R.2 67 = true) (hz116 : R.2 116 = true) (hz117 : R.2 117 = true) (hz118 : R.2 118 = true) (hz119 : R.2 119 = true) (hz120 : R.2 120 = true) (hz121 : R.2 121 = true) (hZ : Fz R I0 o wModel_goOn) (hR0 : RI R I0) (hq0 : MTd I0 o) (hq1 : MFac I0 o) (hR : RI R I0) (hp : ∀ (I' : Nat → Nat → Int32) (L' : Nat → Nat → Int64), RI R I' → Fm (fun c => c = o ∨ c = o + 34 ∨ c = o + 46) I0 I' → ((I' o 106).toInt = 5) → (MTd I' o) → (MFac I' o) → post none (n, sh, Rf, I', L')) : Ev (qGG D cA b E) mModel_goOn 7 (0, 0) 0 (lv_args 0 [.ref o]) [] (n, sh, Rf, I0, L0) post := by
  have hf : Fm (fun c => c = o ∨ c = o + 34 ∨ c = o + 46) I0 I0 := Fm.rf
  have g_1 : (0 : Int) ≤ (I0 o 106).toInt ∧ (I0 o 106).toInt ≤ 5 := hR.at0 ra 106 (by decide)
  refine sModel_goOn_0 o n sh Rf I0 L0 post  hok hw ?_
  unfold fModel_goOn_0
  have g_2 : (0 : Int) ≤ (I0 o 136).toInt ∧ (I0 o 136).toInt ≤ 240 := hR.at0 ra 136 (by decide)
  refine fun I_3 e_4 => ?_
  have hR_5 : RI R I_3 := hR.up0 (k := 57) ra (by decide) (Or.inr hz67) e_4 (show (0 : Int) ≤ (I0 o 136).toInt by omega) (show (I0 o 136).toInt ≤ (240 : Int) by omega)
  have hf_6 : Fm (fun c => c = o ∨ c = o + 34 ∨ c = o + 46) I0 I_3 := hf.set (by first | rfl | omega | (dsimp only; omega)) e_4
  have t_7 : (I_3 o 106).toInt = (I0 o 106).toInt := by rw [← e_4, q_u_k (by decide)]
  have t_8 : (I_3 o 136).toInt = (I0 o 136).toInt := by rw [← e_4, q_u_k (by decide)]
  have t_9 : (I_3 o 57).toInt = (I0 o 136).toInt := by rw [← e_4, q_u_at]
  have k_10 : MTd I_3 o := hq0.fr (by rw [← e_4]; exact q_u_ne (by omega)) (by rw [← e_4]; exact q_u_ne (by omega)) (by rw [← e_4]; exact q_u_ne (by omega))
  have k_11 : MFac I_3 o := hq1.fr (by rw [← e_4]; exact q_u_ne (by omega)) (by rw [← e_4]; exact q_u_ne (by omega)) (by rw [← e_4, q_u_k (by decide)])
  have l_12 : (5 : Int32).toInt = 5 := rfl
  refine fun I_13 e_14 => ?_
  have hR_15 : RI R I_13 := hR_5.up0 (k := 106) ra (by decide) (Or.inr hz116) e_14 (show (0 : Int) ≤ (5 : Int32).toInt by omega) (show (5 : Int32).toInt ≤ (5 : Int) by omega)
  have hf_16 : Fm (fun c => c = o ∨ c = o + 34 ∨ c = o + 46) I0 I_13 := hf_6.set (by first | rfl | omega | (dsimp only; omega)) e_14
  have t_17 : (I_13 o 106).toInt = (5 : Int32).toInt := by rw [← e_14, q_u_at]
  have t_18 : (I_13 o 136).toInt = (I_3 o 136).toInt := by rw [← e_14, q_u_k (by decide)]
  have t_19 : (I_13 o 57).toInt = (I_3 o 57).toInt := by rw [← e_14, q_u_k (by decide)]
  have k_20 : MTd I_13 o := k_10.fr (by rw [← e_14]; exact q_u_ne (by omega)) (by rw [← e_14]; exact q_u_ne (by omega)) (by rw [← e_14]; exact q_u_ne (by omega))
  have k_21 : MFac I_13 o := k_11.fr (by rw [← e_14]; exact q_u_ne (by omega)) (by rw [← e_14]; exact q_u_ne (by omega)) (by rw [← e_14, q_u_k (by decide)])
  refine y_Model_tellMonth hok hw ra hz117 hz118 hz119 hz120 (by first | omega | (intro h; omega) | exact Or.inl rfl | exact Or.inr rfl) k_20 hR_15 (fun I_24 L_25 hR_26 fr_27 kp_28 u_23 => ⟨I_24, L_25, rfl, rfl, ?_⟩)
  have hf_29 : Fm (fun c => c = o ∨ c = o + 34 ∨ c = o + 46) I0 I_24 := hf_16.call fr_27 (fun c hc => by first | exact hc | (dsimp only at hc ⊢; omega) | omega)
  have t_30 : (I_24 o 106).toInt = (I_13 o 106).toInt := by rw [kp_28 106 rfl]
  have t_31 : (I_24 o 136).toInt = (I_13 o 136).toInt := by rw [kp_28 136 rfl]
  have t_32 : (I_24 o 57).toInt = (I_13 o 57).toInt := by rw [kp_28 57 rfl]
  have k_33 : MFac I_24 o := k_21.fr (fr_27 _ (by first | omega | (dsimp only; omega))) (fr_27 _ (by first | omega | (dsimp only; omega))) (kp_28 67 rfl)
  refine y_Model_fillTowns hok hw ra hz121 hR_26 (fun I_35 L_36 hR_37 fr_38 kp_39  => ⟨I_35, L_36, rfl, rfl, ?_⟩)
  have hf_40 : Fm (fun c => c = o ∨ c = o + 34 ∨ c = o + 46) I0 I_35 := hf_29.call fr_38 (fun c hc => by first | exact hc | (dsimp only at hc ⊢; omega) | omega)
  have t_41 : (I_35 o 106).toInt = (I_24 o 106).toInt := by rw [kp_39 106 rfl]
  have t_42 : (I_35 o 136).toInt = (I_24 o 136).toInt := by rw [kp_39 136 rfl]
  have t_43 : (I_35 o 57).toInt = (I_24 o 57).toInt := by rw [kp_39 57 rfl]
  have k_44 : MTd I_35 o := u_23.fr (fr_38 _ (by first | omega | (dsimp only; omega))) (fr_38 _ (by first | omega | (dsimp only; omega))) (fr_38 _ (by first | omega | (dsimp only; omega)))
  have k_45 : MFac I_35 o := k_33.fr (fr_38 _ (by first | omega | (dsimp only; omega))) (fr_38 _ (by first | omega | (dsimp only; omega))) (kp_39 67 rfl)
  exact (hp _ _ hR_37 hf_40 (by first | omega | (intro h; omega) | exact Or.inl rfl | exact Or.inr rfl) k_44 k_45)
theorem y_Model_goOn {D : va_G} {cA : FieldType → ClassId} {b : Nat} {E : State → Prop} {R : qRg} {o n : Nat} {sh : Nat → qC} {Rf : Nat → Nat → Option Nat} {I0 : Nat → Nat → Int32} {L0 : Nat → Nat → Int64} {post : Option Value → qS → Prop} (hok : q_ok (qGG D cA b E)) (hw : WfModel (qGG D cA b E) n sh Rf o) (ra : RAModel R o) (hz67 : R.2 67 = true) (hz116 : R.2 116 = true) (hz117 : R.2 117 = true) (hz118 : R.2 118 = true) (hz119 : R.2 119 = true) (hz120 : R.2 120 = true) (hz121 : R.2 121 = true) (hq0 : MTd I0 o) (hq1 : MFac I0 o) (hR : RI R I0) (hp : ∀ (I' : Nat → Nat → Int32) (L' : Nat → Nat → Int64), RI R I' → Fm (fun c => c = o ∨ c = o + 34 ∨ c = o + 46) I0 I' → Kp wModel_goOn I0 I' o → ((I' o 106).toInt = 5) → (MTd I' o) → (MFac I' o) → post none (n, sh, Rf, I', L')) : Ev (qGG D cA b E) mModel_goOn 7 (0, 0) 0 (lv_args 0 [.ref o]) [] (n, sh, Rf, I0, L0) post :=
  yc_Model_goOn (R := fzR R I0 o wModel_goOn) hok hw (fzA ra hR _) (fzT hz67 rfl) (fzT hz116 rfl) (fzT hz117 rfl) (fzT hz118 rfl) (fzT hz119 rfl) (fzT hz120 rfl) (fzT hz121 rfl) fzZ (fzI hR) hq0 hq1 (fzI hR) (fun I' L' h1 h2 u0 u1 u2 => hp I' L' (fzB hR h1) h2 (fzP h1) u0 u1 u2)
def wModel_way : Nat → Bool := fun j => Nat.beq j 61 || Nat.beq j 62 || Nat.beq j 63 || Nat.beq j 67 || Nat.beq j 116 || Nat.beq j 117 || Nat.beq j 118 || Nat.beq j 119 || Nat.beq j 120 || Nat.beq j 121 || Nat.beq j 130 || Nat.beq j 132 || Nat.beq j 133 || Nat.beq j 134 || Nat.beq j 135 || Nat.beq j 136 || Nat.beq j 137 || false
set_option maxHeartbeats 4000000 in
set_option maxRecDepth 20000 in
theorem yc_Model_way {D : va_G} {cA : FieldType → ClassId} {b : Nat} {E : State → Prop} {R : qRg} {o n : Nat} {sh : Nat → qC} {Rf : Nat → Nat → Option Nat} {I0 : Nat → Nat → Int32} {L0 : Nat → Nat → Int64} {post : Option Value → qS → Prop} {p1 : Int32} {p2 : Int32} (hok : q_ok (qGG D cA b E)) (hw : WfModel (qGG D cA b E) n sh Rf o) (ra : RAModel R o) (hz61 : R.2 61 = true) (hz62 : R.2 62 = true) (hz63 : R.2 63 = true) (hz67 : R.2 67 = true) (hz116 : R.2 116 = true) (hz117 : R.2 117 = true) (hz118 : R.2 118 = true) (hz119 : R.2 119 = true) (hz120 : R.2 120 = true) (hz121 : R.2 121 = true) (hz130 : R.2 130 = true) (hz132 : R.2 132 = true) (hz133 : R.2 133 = true) (hz134 : R.2 134 = true) (hz135 : R.2 135 = true) (hz136 : R.2 136 = true) (hz137 : R.2 137 = true) (hZ : Fz R I0 o wModel_way) (hR0 : RI R I0) (hq0 : MTd I0 o) (hq1 : MFac I0 o) (hR : RI R I0) (hp : ∀ (r : Int64) (I' : Nat → Nat → Int32) (L' : Nat → Nat → Int64), RI R I' → Fm (fun c => c = o ∨ c = o + 34 ∨ c = o + 46) I0 I' → (MTd I' o) → (MFac I' o) → post (some (.long r)) (n, sh, Rf, I', L')) : Ev (qGG D cA b E) mModel_way 8 (0, 0) 0 (lv_args 0 [.ref o, .int p1, .int p2]) [] (n, sh, Rf, I0, L0) post := by
  have hf : Fm (fun c => c = o ∨ c = o + 34 ∨ c = o + 46) I0 I0 := Fm.rf
  have g_1 : (0 : Int) ≤ (I0 o 106).toInt ∧ (I0 o 106).toInt ≤ 5 := hR.at0 ra 106 (by decide)
  refine sModel_way_0 o n sh Rf I0 L0 post p1 p2 hok hw ?_
  unfold fModel_way_0
  have l_2 : (0 : Int32).toInt = 0 := rfl
  refine ⟨fun c_3 => ?_, fun c_3 => ?_⟩
  · have d_4 := iEq c_3
    exact (hp _ _ _ hR hf  hq0 hq1)
  · have d_5 := iNe c_3
    have g_6 : (0 : Int) ≤ (I0 o 137).toInt ∧ (I0 o 137).toInt ≤ 6 := hR.at0 ra 137 (by decide)
    have l_7 : (1 : Int32).toInt = 1 := rfl
    have a_8 : ((I0 o 137) - 1).toInt = (I0 o 137).toInt - (1 : Int32).toInt := tSub (by omega) (by omega)
    refine y_Model_isIn hok hR (fun r_9 u_10 u_11 u_12 => ⟨r_9, I0, L0, rfl, rfl, ?_⟩)
    have b_13 : 0 ≤ r_9.toInt ∧ r_9.toInt ≤ 1 := u_10.rg
    refine ⟨fun c_14 => ?_, fun c_14 => ?_⟩
    · have d_15 := iNe c_14
      have i_16 := u_11 (by omega)
      refine y_Model_goOn hok hw ra hz67 hz116 hz117 hz118 hz119 hz120 hz121 hq0 hq1 hR (fun I_21 L_22 hR_23 fr_24 kp_25 u_18 u_19 u_20 => ⟨I_21, L_22, rfl, rfl, ?_⟩)
      have hf_26 : Fm (fun c => c = o ∨ c = o + 34 ∨ c = o + 46) I0 I_21 := hf.call fr_24 (fun c hc => by first | exact hc | (dsimp only at hc ⊢; omega) | omega)
      have g_27 : (0 : Int) ≤ (I_21 o 106).toInt ∧ (I_21 o 106).toInt ≤ 5 := hR_23.at0 ra 106 (by decide)
      have t_28 : (I_21 o 137).toInt = (I0 o 137).toInt := by rw [kp_25 137 rfl]
      refine y_Model_isDead hok hw ra (by first | omega | (intro h; omega) | exact Or.inl rfl | exact Or.inr rfl) hR_23 (fun r_29 u_30 => ⟨r_29, I_21, L_22, rfl, rfl, ?_⟩)
      have b_31 : 0 ≤ r_29.toInt ∧ r_29.toInt ≤ 1 := u_30.rg
      refine ⟨fun c_32 => ?_, fun c_32 => ?_⟩
      · have d_33 := iEq c_32
        refine y_Model_choose hok hw ra hz61 hz62 hz63 hz130 hz132 hz133 hz134 hz135 hz136 hz137 (by first | omega | (intro h; omega) | exact Or.inl rfl | exact Or.inr rfl) (by first | omega | (intro h; omega) | exact Or.inl rfl | exact Or.inr rfl) u_19 hR_23 (fun I_37 L_38 hR_39 fr_40 kp_41 u_35 u_36 => ⟨I_37, L_38, rfl, rfl, ?_⟩)
        have hf_42 : Fm (fun c => c = o ∨ c = o + 34 ∨ c = o + 46) I0 I_37 := hf_26.call fr_40 (fun c hc => by first | exact hc | (dsimp only at hc ⊢; omega) | omega)
        have t_43 : (I_37 o 106).toInt = (I_21 o 106).toInt := by rw [kp_41 106 rfl]
        have t_44 : (I_37 o 137).toInt = (I_21 o 137).toInt := by rw [kp_41 137 rfl]
        have k_45 : MFac I_37 o := u_20.fr (fr_40 _ (by first | omega | (dsimp only; omega))) (fr_40 _ (by first | omega | (dsimp only; omega))) (kp_41 67 rfl)
        refine ⟨fun c_46 => ?_, fun c_46 => ?_⟩
        · have d_47 := iEq c_46
          have g_48 : (0 : Int) ≤ (I_37 o 122).toInt ∧ (I_37 o 122).toInt ≤ 4 := hR_39.at0 ra 122 (by decide)
          exact (hp _ _ _ hR_39 hf_42  u_35 k_45)
        have d_49 := iNe c_46
        refine ⟨fun c_50 => ?_, fun c_50 => ?_⟩
        · have d_51 := iEq c_50
          have g_52 : (-1 : Int) ≤ (I_37 o 123).toInt ∧ (I_37 o 123).toInt ≤ 2 := hR_39.at0 ra 123 (by decide)
          exact (hp _ _ _ hR_39 hf_42  u_35 k_45)
        have d_53 := iNe c_50
        have l_55 : (2 : Int32).toInt = 2 := rfl
        refine ⟨fun c_54 => ?_, fun c_54 => ?_⟩
        · have d_56 := iEq c_54
          have g_57 : (-1 : Int) ≤ (I_37 o 124).toInt ∧ (I_37 o 124).toInt ≤ 4 := hR_39.at0 ra 124 (by decide)
          exact (hp _ _ _ hR_39 hf_42  u_35 k_45)
        have d_58 := iNe c_54
        have l_60 : (3 : Int32).toInt = 3 := rfl
        refine ⟨fun c_59 => ?_, fun c_59 => ?_⟩
        · have d_61 := iEq c_59
          exact (hp _ _ _ hR_39 hf_42  u_35 k_45)
        have d_62 := iNe c_59
        have l_64 : (4 : Int32).toInt = 4 := rfl
        refine ⟨fun c_63 => ?_, fun c_63 => ?_⟩
        · have d_65 := iEq c_63
          exact (hp _ _ _ hR_39 hf_42  u_35 k_45)
        have d_66 := iNe c_63
        exact (hp _ _ _ hR_39 hf_42  u_35 k_45)
      · have d_67 := iNe c_32
        exact (hp _ _ _ hR_23 hf_26  u_19 u_20)
    · have d_68 := iEq c_14
      exact (hp _ _ _ hR hf  hq0 hq1)
theorem y_Model_way {D : va_G} {cA : FieldType → ClassId} {b : Nat} {E : State → Prop} {R : qRg} {o n : Nat} {sh : Nat → qC} {Rf : Nat → Nat → Option Nat} {I0 : Nat → Nat → Int32} {L0 : Nat → Nat → Int64} {post : Option Value → qS → Prop} {p1 : Int32} {p2 : Int32} (hok : q_ok (qGG D cA b E)) (hw : WfModel (qGG D cA b E) n sh Rf o) (ra : RAModel R o) (hz61 : R.2 61 = true) (hz62 : R.2 62 = true) (hz63 : R.2 63 = true) (hz67 : R.2 67 = true) (hz116 : R.2 116 = true) (hz117 : R.2 117 = true) (hz118 : R.2 118 = true) (hz119 : R.2 119 = true) (hz120 : R.2 120 = true) (hz121 : R.2 121 = true) (hz130 : R.2 130 = true) (hz132 : R.2 132 = true) (hz133 : R.2 133 = true) (hz134 : R.2 134 = true) (hz135 : R.2 135 = true) (hz136 : R.2 136 = true) (hz137 : R.2 137 = true) (hq0 : MTd I0 o) (hq1 : MFac I0 o) (hR : RI R I0) (hp : ∀ (r : Int64) (I' : Nat → Nat → Int32) (L' : Nat → Nat → Int64), RI R I' → Fm (fun c => c = o ∨ c = o + 34 ∨ c = o + 46) I0 I' → Kp wModel_way I0 I' o → (MTd I' o) → (MFac I' o) → post (some (.long r)) (n, sh, Rf, I', L')) : Ev (qGG D cA b E) mModel_way 8 (0, 0) 0 (lv_args 0 [.ref o, .int p1, .int p2]) [] (n, sh, Rf, I0, L0) post :=
  yc_Model_way (R := fzR R I0 o wModel_way) hok hw (fzA ra hR _) (fzT hz61 rfl) (fzT hz62 rfl) (fzT hz63 rfl) (fzT hz67 rfl) (fzT hz116 rfl) (fzT hz117 rfl) (fzT hz118 rfl) (fzT hz119 rfl) (fzT hz120 rfl) (fzT hz121 rfl) (fzT hz130 rfl) (fzT hz132 rfl) (fzT hz133 rfl) (fzT hz134 rfl) (fzT hz135 rfl) (fzT hz136 rfl) (fzT hz137 rfl) fzZ (fzI hR) hq0 hq1 (fzI hR) (fun r I' L' h1 h2 u0 u1 => hp r I' L' (fzB hR h1) h2 (fzP h1) u0 u1)
def wModel_worth : Nat → Bool := fun j => Nat.beq j 67 || Nat.beq j 116 || Nat.beq j 117 || Nat.beq j 118 || Nat.beq j 119 || Nat.beq j 120 || Nat.beq j 121 || Nat.beq j 130 || false
set_option maxHeartbeats 4000000 in
set_option maxRecDepth 20000 in
theorem yc_Model_worth {D : va_G} {cA : FieldType → ClassId} {b : Nat} {E : State → Prop} {R : qRg} {o n : Nat} {sh : Nat → qC} {Rf : Nat → Nat → Option Nat} {I0 : Nat → Nat → Int32} {L0 : Nat → Nat → Int64} {post : Option Value → qS → Prop} {p1 : Int32} (hok : q_ok (qGG D cA b E)) (hw : WfModel (qGG D cA b E) n sh Rf o) (ra : RAModel R o) (hz67 : R.2 67 = true) (hz116 : R.2 116 = true) (hz117 : R.2 117 = true) (hz118 : R.2 118 = true) (hz119 : R.2 119 = true) (hz120 : R.2 120 = true) (hz121 : R.2 121 = true) (hz130 : R.2 130 = true) (hZ : Fz R I0 o wModel_worth) (hR0 : RI R I0) (hq0 : MTd I0 o) (hq1 : MFac I0 o) (hR : RI R I0) (hp : ∀ (r : Int64) (I' : Nat → Nat → Int32) (L' : Nat → Nat → Int64), RI R I' → Fm (fun c => c = o ∨ c = o + 34 ∨ c = o + 46) I0 I' → (MTd I' o) → (MFac I' o) → post (some (.long r)) (n, sh, Rf, I', L')) : Ev (qGG D cA b E) mModel_worth 8 (0, 0) 0 (lv_args 0 [.ref o, .int p1]) [] (n, sh, Rf, I0, L0) post := by
  have hf : Fm (fun c => c = o ∨ c = o + 34 ∨ c = o + 46) I0 I0 := Fm.rf
  have g_1 : (0 : Int) ≤ (I0 o 106).toInt ∧ (I0 o 106).toInt ≤ 5 := hR.at0 ra 106 (by decide)
  refine sModel_worth_0 o n sh Rf I0 L0 post p1 hok hw ?_
  unfold fModel_worth_0
  have l_2 : (0 : Int32).toInt = 0 := rfl
  refine ⟨fun c_3 => ?_, fun c_3 => ?_⟩
  · have d_4 := iEq c_3
    exact (hp _ _ _ hR hf  hq0 hq1)
  · have d_5 := iNe c_3
    refine y_Model_pans hok hw ra hR (fun r_6 u_7 => ⟨r_6, I0, L0, rfl, rfl, ?_⟩)
    have l_8 : (1 : Int32).toInt = 1 := rfl
    have a_9 : (r_6 - 1).toInt = r_6.toInt - (1 : Int32).toInt := tSub (by omega) (by omega)
    refine y_Model_isIn hok hR (fun r_10 u_11 u_12 u_13 => ⟨r_10, I0, L0, rfl, rfl, ?_⟩)
    have b_14 : 0 ≤ r_10.toInt ∧ r_10.toInt ≤ 1 := u_11.rg
    refine ⟨fun c_15 => ?_, fun c_15 => ?_⟩
    · have d_16 := iNe c_15
      have i_17 := u_12 (by omega)
      refine y_Model_goOn hok hw ra hz67 hz116 hz117 hz118 hz119 hz120 hz121 hq0 hq1 hR (fun I_22 L_23 hR_24 fr_25 kp_26 u_19 u_20 u_21 => ⟨I_22, L_23, rfl, rfl, ?_⟩)
      have hf_27 : Fm (fun c => c = o ∨ c = o + 34 ∨ c = o + 46) I0 I_22 := hf.call fr_25 (fun c hc => by first | exact hc | (dsimp only at hc ⊢; omega) | omega)
      have g_28 : (0 : Int) ≤ (I_22 o 106).toInt ∧ (I_22 o 106).toInt ≤ 5 := hR_24.at0 ra 106 (by decide)
      refine y_Model_worthOf hok hw ra hz130 (by first | omega | (intro h; omega) | exact Or.inl rfl | exact Or.inr rfl) hR_24 (fun r_29 I_30 L_31 hR_32 fr_33 kp_34  => ⟨r_29, I_30, L_31, rfl, rfl, ?_⟩)
      have hf_35 : Fm (fun c => c = o ∨ c = o + 34 ∨ c = o + 46) I0 I_30 := hf_27.call fr_33 (fun c hc => by first | exact hc | (dsimp only at hc ⊢; omega) | omega)
      have t_36 : (I_30 o 106).toInt = (I_22 o 106).toInt := by rw [kp_34 106 rfl]
      have k_37 : MTd I_30 o := u_20.fr (fr_33 _ (by first | omega | (dsimp only; omega))) (fr_33 _ (by first | omega | (dsimp only; omega))) (fr_33 _ (by first | omega | (dsimp only; omega)))
      have k_38 : MFac I_30 o := u_21.fr (fr_33 _ (by first | omega | (dsimp only; omega))) (fr_33 _ (by first | omega | (dsimp only; omega))) (kp_34 67 rfl)
      exact (hp _ _ _ hR_32 hf_35  k_37 k_38)
    · have d_39 := iEq c_15
      exact (hp _ _ _ hR hf  hq0 hq1)
theorem y_Model_worth {D : va_G} {cA : FieldType → ClassId} {b : Nat} {E : State → Prop} {R : qRg} {o n : Nat} {sh : Nat → qC} {Rf : Nat → Nat → Option Nat} {I0 : Nat → Nat → Int32} {L0 : Nat → Nat → Int64} {post : Option Value → qS → Prop} {p1 : Int32} (hok : q_ok (qGG D cA b E)) (hw : WfModel (qGG D cA b E) n sh Rf o) (ra : RAModel R o) (hz67 : R.2 67 = true) (hz116 : R.2 116 = true) (hz117 : R.2 117 = true) (hz118 : R.2 118 = true) (hz119 : R.2 119 = true) (hz120 : R.2 120 = true) (hz121 : R.2 121 = true) (hz130 : R.2 130 = true) (hq0 : MTd I0 o) (hq1 : MFac I0 o) (hR : RI R I0) (hp : ∀ (r : Int64) (I' : Nat → Nat → Int32) (L' : Nat → Nat → Int64), RI R I' → Fm (fun c => c = o ∨ c = o + 34 ∨ c = o + 46) I0 I' → Kp wModel_worth I0 I' o → (MTd I' o) → (MFac I' o) → post (some (.long r)) (n, sh, Rf, I', L')) : Ev (qGG D cA b E) mModel_worth 8 (0, 0) 0 (lv_args 0 [.ref o, .int p1]) [] (n, sh, Rf, I0, L0) post :=
  yc_Model_worth (R := fzR R I0 o wModel_worth) hok hw (fzA ra hR _) (fzT hz67 rfl) (fzT hz116 rfl) (fzT hz117 rfl) (fzT hz118 rfl) (fzT hz119 rfl) (fzT hz120 rfl) (fzT hz121 rfl) (fzT hz130 rfl) fzZ (fzI hR) hq0 hq1 (fzI hR) (fun r I' L' h1 h2 u0 u1 => hp r I' L' (fzB hR h1) h2 (fzP h1) u0 u1)
